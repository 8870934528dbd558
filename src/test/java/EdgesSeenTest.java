/** The edges of part I and of promises 1 to 3 and 14: DAYS, THINGS, what is told of them, and the last call. */
public final class EdgesSeenTest {
    private static final Due T = new Due("EdgesSeenTest");

    public static void main(String[] args) {
        newObject();
        daysOfSeen();
        daysOfSee();
        lastDays();
        thingsOfSee();
        numbersOfSee();
        asToldLast();
        latestNotBehind();
        nothingTold();
        theLastCall();
        T.finish();
    }

    private static DeedTongue on(int day) {
        DeedTongue x = new DeedTongue();
        for (int i = 0; i < day; i++) {
            x.day();
        }
        return x;
    }

    private static void newObject() {
        T.says("DAY 0; no FORMS.");
        DeedTongue x = new DeedTongue();
        T.due("NOW", x.count(0), 0);
        T.due("FORMS", x.count(1), 0);
        T.due("words(0)", x.words(0), -1);
        T.due("LIVES", x.count(2), 0);
        T.due("PAYMENTS", x.count(3), 0);
        T.due("bytes of the TAPE", x.count(4), 0);
        T.due("bytes of OUT", x.count(5), 0);
        T.due("WAYS", x.count(6), 1);
        T.due("LOST", x.count(7), 0);
    }

    private static void daysOfSeen() {
        T.says("DAYS 0 to 399");
        DeedTongue x = new DeedTongue();
        x.see(0, 0, 8);
        T.due("seen(0, -1)", x.seen(0, -1), -10000);
        T.due("seen(0, 0)", x.seen(0, 0), 8);
        T.due("seen(0, 399)", x.seen(0, 399), 8);
        T.due("seen(0, 400)", x.seen(0, 400), -10000);
        T.due("net(-1)", x.net(-1), -1);
        T.due("net(0)", x.net(0), 0);
        T.due("net(399)", x.net(399), 0);
        T.due("net(400)", x.net(400), -1);
    }

    private static void daysOfSee() {
        T.says("told of DAYS not behind NOW");
        for (int now : new int[] {0, 1, 2, 57, 398, 399}) {
            DeedTongue x = on(now);
            T.due("see on -1, NOW " + now, x.see(2, -1, 5), false);
            T.due("see on NOW + 1, NOW " + now, x.see(2, now + 1, 5), false);
            T.due("nothing is told", x.seen(2, 399), 0);
            T.due("see on NOW, " + now, x.see(2, now, 5), true);
            T.due("seen on NOW", x.seen(2, now), 5);
            T.due("see on 0, NOW " + now, x.see(2, 0, 4), true);
            T.due("seen on 0", x.seen(2, 0), 4);
            T.due("seen on NOW", x.seen(2, now), now == 0 ? 4 : 5);
        }
    }

    private static void lastDays() {
        T.says("NONE, and nothing happens, on DAY 399.");
        DeedTongue x = on(397);
        T.due("day to 398", x.day(), 0);
        T.due("NOW", x.count(0), 398);
        T.due("day to 399", x.day(), 0);
        T.due("NOW", x.count(0), 399);
        T.due("day on 399", x.day(), -1);
        T.due("NOW stays", x.count(0), 399);
        T.due("day on 399 again", x.day(), -1);
        T.due("NOW stays", x.count(0), 399);
    }

    private static void thingsOfSee() {
        T.says("THINGS 0 to 5");
        DeedTongue x = new DeedTongue();
        T.due("see(-1)", x.see(-1, 0, 1), false);
        T.due("see(6)", x.see(6, 0, 1), false);
        T.due("seen(-1)", x.seen(-1, 0), -10000);
        T.due("seen(6)", x.seen(6, 0), -10000);
        for (int thing = 0; thing < 6; thing++) {
            T.due("not told yet", x.seen(thing, 0), 0);
            T.due("see(" + thing + ")", x.see(thing, 0, 10 + thing), true);
        }
        for (int thing = 0; thing < 6; thing++) {
            T.due("seen(" + thing + ")", x.seen(thing, 0), 10 + thing);
            T.due("seen later", x.seen(thing, 399), 10 + thing);
        }
    }

    private static void numbersOfSee() {
        T.says("numbers (-9999 to 9999)");
        int[] taken = {-9999, -9998, -1, 0, 1, 9998, 9999};
        int[] not = {-10000, -10001, 10000, 10001, Integer.MIN_VALUE, Integer.MAX_VALUE};
        for (int v : taken) {
            DeedTongue x = new DeedTongue();
            T.due("see " + v, x.see(0, 0, v), true);
            T.due("seen", x.seen(0, 0), v);
            T.due("seen later", x.seen(0, 1), v);
        }
        for (int v : not) {
            DeedTongue x = new DeedTongue();
            T.due("see " + v, x.see(0, 0, v), false);
            T.due("seen", x.seen(0, 0), 0);
            x.see(0, 0, 3);
            T.due("see " + v, x.see(0, 0, v), false);
            T.due("seen", x.seen(0, 0), 3);
        }
    }

    private static void asToldLast() {
        T.says("as told last");
        DeedTongue x = on(2);
        int[] told = {7, -9999, 0, 9999, 0};
        for (int v : told) {
            x.see(1, 1, v);
            T.due("DAY 1", x.seen(1, 1), v);
            T.due("DAY 2", x.seen(1, 2), v);
            T.due("DAY 0", x.seen(1, 0), 0);
        }
    }

    private static void latestNotBehind() {
        T.says("what is told of the latest DAY not behind it of which something is told");
        DeedTongue x = on(5);
        x.see(4, 4, 40);
        x.see(4, 1, 10);
        x.see(4, 3, 0);
        int[] due = {0, 10, 10, 0, 40, 40, 40};
        for (int day = 0; day < due.length; day++) {
            T.due("DAY " + day, x.seen(4, day), due[day]);
        }
        T.due("DAY 399", x.seen(4, 399), 40);
        // A VALUE is what the THING is NOW, by whatever DAY it was told of last.
        Due.read(x, "scale s4:one");
        x.begin(0, 0, 1);
        T.due("a VALUE of it", x.got(0), 40);
        x.see(4, 2, 20);
        x.begin(0, 0, 1);
        T.due("DAY 2 does not reach NOW", x.got(1), 40);
        x.see(4, 5, 50);
        x.begin(0, 0, 1);
        T.due("DAY 5 is NOW", x.got(2), 50);
        x.day();
        x.begin(0, 0, 1);
        T.due("and goes on", x.got(3), 50);
        x.see(4, 5, 51);
        x.begin(0, 0, 1);
        T.due("as told last of the DAY before", x.got(4), 51);
    }

    private static void nothingTold() {
        T.says("0 without.");
        DeedTongue x = on(3);
        for (int thing = 0; thing < 6; thing++) {
            T.due("seen on 0", x.seen(thing, 0), 0);
            T.due("seen on 399", x.seen(thing, 399), 0);
        }
        x.see(0, 3, 9);
        T.due("ahead of the first told", x.seen(0, 2), 0);
        T.due("another THING", x.seen(1, 3), 0);
    }

    private static void theLastCall() {
        T.says("An object is used for at most 512 calls after it has been made");
        DeedTongue x = on(399);
        for (int i = 0; i < 56; i++) {
            T.due("see", x.see(i % 6, 399, i), true);
            T.due("seen", x.seen(i % 6, 399), i);
        }
        T.due("the 512th call", x.seen(1, 399), 55);
    }
}
