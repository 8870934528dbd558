/** Promises 1 to 3: a new object, see, seen. */
public final class SeeTest {
    private static final Due T = new Due("SeeTest");

    public static void main(String[] args) {
        newObject();
        told();
        refused();
        lastDay();
        T.finish();
    }

    private static void newObject() {
        DeedTongue x = new DeedTongue();
        int[] due = {0, 0, 0, 0, 0, 0, 1, 0};
        for (int what = 0; what < due.length; what++) {
            T.due("count(" + what + ")", x.count(what), due[what]);
        }
        for (int thing = 0; thing < 6; thing++) {
            T.due("seen", x.seen(thing, 0), 0);
            T.due("seen", x.seen(thing, 399), 0);
        }
        T.due("words(0)", x.words(0), -1);
        T.due("stands(0)", x.stands(0), -1);
        T.due("octet(0)", x.octet(0), -1);
        T.due("netted(0, 10)", x.netted(0, 10), -1000000000000L);
    }

    private static void told() {
        DeedTongue x = new DeedTongue();
        T.due("see", x.see(0, 0, 5), true);
        T.due("seen", x.seen(0, 0), 5);
        T.due("seen on a later DAY", x.seen(0, 399), 5);
        T.due("another THING", x.seen(1, 0), 0);
        T.due("told again", x.see(0, 0, -9999), true);
        T.due("as told last", x.seen(0, 0), -9999);
        T.due("day", x.day(), 0);
        T.due("day", x.day(), 0);
        T.due("see DAY 2", x.see(0, 2, 9999), true);
        T.due("seen DAY 1", x.seen(0, 1), -9999);
        T.due("seen DAY 2", x.seen(0, 2), 9999);
        T.due("see DAY 1, which is gone", x.see(0, 1, 0), true);
        T.due("0 is told, too", x.seen(0, 1), 0);
        T.due("DAY 0 stays", x.seen(0, 0), -9999);
        T.due("DAY 2 stays", x.seen(0, 2), 9999);
        T.due("THING 5", x.see(5, 1, 7), true);
        T.due("ahead of it", x.seen(5, 0), 0);
        T.due("on it", x.seen(5, 1), 7);
        T.due("behind it", x.seen(5, 3), 7);
    }

    private static void refused() {
        DeedTongue x = new DeedTongue();
        x.day();
        x.see(2, 1, 3);
        T.due("a DAY to come", x.see(2, 2, 4), false);
        T.due("DAY 399", x.see(2, 399, 4), false);
        T.due("DAY -1", x.see(2, -1, 4), false);
        T.due("DAY 400", x.see(2, 400, 4), false);
        T.due("THING 6", x.see(6, 1, 4), false);
        T.due("THING -1", x.see(-1, 1, 4), false);
        T.due("10000", x.see(2, 1, 10000), false);
        T.due("-10000", x.see(2, 1, -10000), false);
        T.due("the least int", x.see(2, 1, Integer.MIN_VALUE), false);
        T.due("nothing happened", x.seen(2, 399), 3);
        T.due("seen THING 6", x.seen(6, 0), -10000);
        T.due("seen THING -1", x.seen(-1, 0), -10000);
        T.due("seen DAY -1", x.seen(0, -1), -10000);
        T.due("seen DAY 400", x.seen(0, 400), -10000);
    }

    private static void lastDay() {
        DeedTongue x = new DeedTongue();
        for (int i = 1; i < 400; i++) {
            x.day();
        }
        T.due("NOW", x.count(0), 399);
        T.due("see DAY 399", x.see(3, 399, 1), true);
        T.due("seen DAY 399", x.seen(3, 399), 1);
        T.due("seen DAY 398", x.seen(3, 398), 0);
        T.due("see DAY 400", x.see(3, 400, 1), false);
        T.due("day", x.day(), -1);
        T.due("NOW stays", x.count(0), 399);
    }
}
