/** Promises 21 and 22: net, netted. */
public final class NetTest {
    private static final Due T = new Due("NetTest");
    private static final long NO = -1000000000000L;

    public static void main(String[] args) {
        refused();
        gifts();
        ring();
        chain();
        latest();
        T.finish();
    }

    private static void refused() {
        DeedTongue x = new DeedTongue();
        for (int what = -1; what < 20; what++) {
            T.due("ahead of any", x.netted(0, what), NO);
        }
        T.due("net(-1)", x.net(-1), -1);
        T.due("net(400)", x.net(400), -1);
        T.due("still ahead of any", x.netted(0, 10), NO);
        T.due("net(0)", x.net(0), 0);
        T.due("a HOUSE gets nothing", x.netted(0, 10), 0);
        T.due("whatever k", x.netted(-5, 17), 0);
        T.due("what 18", x.netted(0, 18), NO);
        T.due("what 9", x.netted(0, 9), NO);
        T.due("no gift", x.netted(0, 0), NO);
        T.due("net(399)", x.net(399), 0);
    }

    private static void gift(DeedTongue x, int k, int giver, int taker, long amount) {
        T.due("giver of " + k, x.netted(k, 0), giver);
        T.due("taker of " + k, x.netted(k, 1), taker);
        T.due("amount of " + k, x.netted(k, 2), amount);
    }

    private static void gifts() {
        DeedTongue x = new DeedTongue();
        Due.read(x, "scale 10:one");
        Due.read(x, "scale 4:give one");
        // 3 gets 10 of 1, 6 gives 4 to 0, 5 gets 10 of 6.
        x.begin(0, 3, 1);
        x.begin(1, 6, 0);
        x.begin(0, 5, 6);
        T.due("net", x.net(0), 4);
        long[] gets = {4, -10, 0, 10, 0, 10, -14, 0};
        for (int h = 0; h < 8; h++) {
            T.due("what HOUSE " + h + " gets", x.netted(99, 10 + h), gets[h]);
        }
        gift(x, 0, 1, 0, 4);
        gift(x, 1, 1, 3, 6);
        gift(x, 2, 6, 3, 4);
        gift(x, 3, 6, 5, 10);
        T.due("no gift 4", x.netted(4, 0), NO);
        T.due("no gift -1", x.netted(-1, 0), NO);
        T.due("what 3", x.netted(0, 3), NO);
        T.due("what -1", x.netted(0, -1), NO);
        T.due("got stays", x.got(1), -4);
    }

    private static void ring() {
        DeedTongue x = new DeedTongue();
        Due.read(x, "scale 7:one");
        for (int h = 0; h < 8; h++) {
            x.begin(0, h, (h + 1) % 8);
        }
        T.due("all is netted", x.net(0), 0);
        for (int h = 0; h < 8; h++) {
            T.due("nothing for " + h, x.netted(0, 10 + h), 0);
        }
    }

    private static void chain() {
        DeedTongue x = new DeedTongue();
        String[] scales = {"1", "2", "3", "4", "5", "6", "7"};
        for (int i = 0; i < 7; i++) {
            Due.read(x, "scale " + scales[i] + ":one");
            x.begin(i, i, 7);
        }
        T.due("seven gifts", x.net(0), 7);
        for (int i = 0; i < 7; i++) {
            gift(x, i, 7, i, i + 1);
        }
        T.due("HOUSE 7", x.netted(0, 17), -28);
    }

    private static void latest() {
        DeedTongue x = new DeedTongue();
        Due.read(x, "both(one,when day=2:scale 5:give one)");
        x.begin(0, 0, 1);
        T.due("net(0)", x.net(0), 1);
        gift(x, 0, 1, 0, 1);
        x.day();
        T.due("day", x.day(), 1);
        gift(x, 0, 1, 0, 1);
        T.due("net(400) is NONE", x.net(400), -1);
        gift(x, 0, 1, 0, 1);
        T.due("net(1)", x.net(1), 0);
        T.due("HOUSE 0", x.netted(0, 10), 0);
        T.due("net(2)", x.net(2), 1);
        gift(x, 0, 0, 1, 5);
        T.due("HOUSE 0", x.netted(0, 10), -5);
        // What is paid behind net() is not in what it found.
        T.due("begin", x.begin(0, 0, 1), 1);
        T.due("HOUSE 0 stays", x.netted(0, 10), -5);
        T.due("net(2) again", x.net(2), 1);
        T.due("HOUSE 0", x.netted(0, 10), -9);
    }
}
