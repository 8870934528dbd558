/** The edges of what is NETTED, of promises 21 and 22. */
public final class EdgesNetTest {
    private static final Due T = new Due("EdgesNetTest");
    private static final long NO = -1000000000000L;

    public static void main(String[] args) {
        daysOfNet();
        aheadOfAny();
        latestThatWasNotNone();
        askedOtherwise();
        asMuchAsBothHave();
        leastHouses();
        mostGifts();
        otherDays();
        greatSums();
        T.finish();
    }

    /** An object with a FORM for each number of coins, from 0 on. */
    private static DeedTongue payers(int n) {
        DeedTongue x = new DeedTongue();
        for (int i = 0; i < n; i++) {
            T.due("form", Due.read(x, "scale " + i + ":one"), i);
        }
        return x;
    }

    private static void gifts(DeedTongue x, int day, int[]... due) {
        T.due("net(" + day + ")", x.net(day), due.length);
        for (int k = 0; k < due.length; k++) {
            for (int what = 0; what < 3; what++) {
                T.due("netted(" + k + ", " + what + ")", x.netted(k, what), due[k][what]);
            }
        }
        for (int what = 0; what < 3; what++) {
            T.due("no gift behind the last", x.netted(due.length, what), NO);
            T.due("no gift ahead of the first", x.netted(-1, what), NO);
        }
    }

    private static void gets(DeedTongue x, long... due) {
        for (int h = 0; h < 8; h++) {
            T.due("what HOUSE " + h + " gets", x.netted(0, 10 + h), due[h]);
        }
    }

    private static void daysOfNet() {
        T.says("NETTED of a DAY: how many gifts; NONE, and nothing happens, for others.");
        DeedTongue x = payers(3);
        x.begin(2, 1, 0);
        int[] not = {-1, -2, 400, 401, Integer.MIN_VALUE, Integer.MAX_VALUE};
        for (int day : not) {
            T.due("net(" + day + ")", x.net(day), -1);
        }
        T.due("nothing happened", x.netted(0, 11), NO);
        gifts(x, 0, new int[] {0, 1, 2});
        for (int day : not) {
            T.due("net(" + day + ")", x.net(day), -1);
        }
        gets(x, -2, 2, 0, 0, 0, 0, 0, 0);
        // A DAY to come is a DAY of no PAYMENTS yet.
        gifts(x, 1);
        gets(x, 0, 0, 0, 0, 0, 0, 0, 0);
        gifts(x, 399);
        gifts(x, 0, new int[] {0, 1, 2});
    }

    private static void aheadOfAny() {
        T.says("-1000000000000 ahead of any, without it, or for another what.");
        DeedTongue x = payers(2);
        x.begin(1, 0, 1);
        for (int what = -1; what <= 18; what++) {
            T.due("netted(0, " + what + ")", x.netted(0, what), NO);
        }
        x.net(400);
        T.due("NONE is not any", x.netted(0, 0), NO);
        T.due("nor for HOUSES", x.netted(0, 10), NO);
        x.net(0);
        T.due("who gives", x.netted(0, 0), 1);
    }

    private static void latestThatWasNotNone() {
        T.says("Of gift k of the latest net() that was not NONE");
        DeedTongue x = payers(4);
        x.begin(3, 6, 7);
        gifts(x, 0, new int[] {7, 6, 3});
        T.due("net(-1)", x.net(-1), -1);
        T.due("who gets", x.netted(0, 1), 6);
        x.begin(2, 7, 6);
        x.day();
        T.due("as it was found", x.netted(0, 2), 3);
        T.due("what HOUSE 6 got", x.netted(0, 16), 3);
        gifts(x, 0, new int[] {7, 6, 1});
        gifts(x, 1);
        T.due("no gift any more", x.netted(0, 0), NO);
    }

    private static void askedOtherwise() {
        T.says("10 + h (whatever k): what HOUSE h gets by all");
        DeedTongue x = payers(6);
        x.begin(5, 0, 7);
        x.net(0);
        int[] anyK = {0, 1, -1, 99, Integer.MIN_VALUE, Integer.MAX_VALUE};
        for (int k : anyK) {
            T.due("what HOUSE 0 gets, k " + k, x.netted(k, 10), 5);
            T.due("what HOUSE 7 gets, k " + k, x.netted(k, 17), -5);
            T.due("what HOUSE 3 gets, k " + k, x.netted(k, 13), 0);
            T.due("what 9, k " + k, x.netted(k, 9), NO);
            T.due("what 18, k " + k, x.netted(k, 18), NO);
            T.due("what 3, k " + k, x.netted(k, 3), NO);
            T.due("what -1, k " + k, x.netted(k, -1), NO);
        }
        T.due("what 0", x.netted(0, 0), 7);
        T.due("what 1", x.netted(0, 1), 0);
        T.due("what 2", x.netted(0, 2), 5);
        T.due("gift 1", x.netted(1, 2), NO);
    }

    private static void asMuchAsBothHave() {
        T.says("as much as both have, and so on");
        DeedTongue x = payers(10);
        x.begin(5, 1, 0);
        x.begin(5, 2, 3);
        gifts(x, 0, new int[] {0, 1, 5}, new int[] {3, 2, 5});
        DeedTongue y = payers(10);
        y.begin(5, 1, 0);
        y.begin(4, 1, 2);
        gifts(y, 0, new int[] {0, 1, 5}, new int[] {2, 1, 4});
        DeedTongue z = payers(10);
        z.begin(5, 1, 0);
        z.begin(4, 2, 0);
        gifts(z, 0, new int[] {0, 1, 5}, new int[] {0, 2, 4});
        // 0 gives 7, 1 gives 1, 2 gets 6, 3 gets 2.
        DeedTongue w = payers(10);
        w.begin(6, 2, 0);
        w.begin(1, 3, 0);
        w.begin(1, 3, 1);
        gifts(w, 0, new int[] {0, 2, 6}, new int[] {0, 3, 1}, new int[] {1, 3, 1});
        gets(w, -7, -1, 6, 2, 0, 0, 0, 0);
    }

    private static void leastHouses() {
        T.says("the least HOUSE that gives to the least that gets");
        DeedTongue x = payers(4);
        x.begin(1, 0, 7);
        x.begin(2, 6, 1);
        x.begin(3, 5, 2);
        gets(x, NO, NO, NO, NO, NO, NO, NO, NO);
        gifts(x, 0, new int[] {1, 0, 1}, new int[] {1, 5, 1}, new int[] {2, 5, 2}, new int[] {2, 6, 1}, new int[] {7, 6, 1});
        gets(x, 1, -2, -3, 0, 0, 3, 2, -1);
        // HOUSES that give as much as they get have no gift.
        DeedTongue y = payers(4);
        y.begin(3, 4, 2);
        y.begin(3, 6, 4);
        gifts(y, 0, new int[] {2, 6, 3});
        y.begin(3, 2, 6);
        gifts(y, 0);
    }

    private static void mostGifts() {
        T.says("gifts: the least HOUSE that gives");
        DeedTongue x = payers(9);
        for (int h = 1; h < 8; h++) {
            x.begin(h, 0, h);
        }
        int[][] due = new int[7][];
        for (int h = 1; h < 8; h++) {
            due[h - 1] = new int[] {h, 0, h};
        }
        gifts(x, 0, due);
        // As each gift settles a HOUSE and the last one two, 8 HOUSES have 7 gifts at most.
        DeedTongue y = payers(9);
        int[][] edges = {{4, 0, 2}, {4, 1, 1}, {5, 1, 1}, {5, 2, 1}, {6, 2, 1}, {6, 3, 1}, {7, 3, 3}};
        for (int[] e : edges) {
            y.begin(e[2], e[0], e[1]);
        }
        int[][] want = new int[7][];
        for (int i = 0; i < 7; i++) {
            want[i] = new int[] {edges[i][1], edges[i][0], edges[i][2]};
        }
        gifts(y, 0, want);
    }

    private static void otherDays() {
        T.says("NETTED of a DAY: what each HOUSE gets by all PAYMENTS of it");
        DeedTongue x = new DeedTongue();
        Due.read(x, "both(one,both(when day=1:scale 2:one,when day=399:scale 4:give one))");
        x.begin(0, 0, 1);
        for (int i = 0; i < 399; i++) {
            x.day();
        }
        gifts(x, 0, new int[] {1, 0, 1});
        gifts(x, 1, new int[] {1, 0, 2});
        gifts(x, 2);
        gifts(x, 398);
        gifts(x, 399, new int[] {0, 1, 4});
        T.due("net(400)", x.net(400), -1);
    }

    private static void greatSums() {
        DeedTongue x = new DeedTongue();
        Due.read(x, "scale 1000*1000:" + Due.bush(16, "one"));
        for (int i = 0; i < 40; i++) {
            x.begin(0, 7, 0);
        }
        gifts(x, 0, new int[] {0, 7, 640000000});
        gets(x, -640000000, 0, 0, 0, 0, 0, 0, 640000000);
    }
}
