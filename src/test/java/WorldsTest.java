/** Promises 23 to 28: ways, weight, adds, worth, comeTo, parted. */
public final class WorldsTest {
    private static final Due T = new Due("WorldsTest");
    private static final long NO = -1000000000000000000L;

    public static void main(String[] args) {
        waysWeightsAdds();
        refusedWorth();
        plainWorths();
        waitingWorths();
        choicesOfBothSides();
        lapsingWorths();
        daysBeyond();
        comesTo();
        partings();
        refusedPartings();
        T.finish();
    }

    private static DeedTongue with(String... texts) {
        DeedTongue x = new DeedTongue();
        for (int i = 0; i < texts.length; i++) {
            T.due("form of '" + texts[i] + "'", Due.read(x, texts[i]), i);
        }
        return x;
    }

    /** Two WAYS: THING 0 one up (WEIGHT 3), THING 0 one down (WEIGHT 1). */
    private static void upAndDown(DeedTongue x) {
        T.due("ways", x.ways(2), true);
        T.due("weight", x.weight(0, 3), true);
        T.due("adds", x.adds(0, 0, 1), true);
        T.due("adds", x.adds(1, 0, -1), true);
    }

    private static void worths(DeedTongue x, int form, int n, long... due) {
        for (int what = 0; what < due.length; what++) {
            T.due("worth(" + form + ", " + n + ", " + what + ")", x.worth(form, n, what), due[what]);
        }
    }

    private static void waysWeightsAdds() {
        DeedTongue x = with("when s0=5:one");
        T.due("WAYS", x.count(6), 1);
        worths(x, 0, 4, 0, 0, 0, 1);
        T.due("weight of the one WAY", x.weight(0, 4), true);
        T.due("no WAY 1", x.weight(1, 1), false);
        T.due("adds", x.adds(0, 0, 5), true);
        T.due("no WAY 1", x.adds(1, 0, 5), false);
        worths(x, 0, 2, 16, 1, 1, 16);
        int[] wrong = {0, 4, -1, Integer.MAX_VALUE};
        for (int n : wrong) {
            T.due("ways(" + n + ")", x.ways(n), false);
        }
        T.due("WAYS", x.count(6), 1);
        worths(x, 0, 2, 16, 1, 1, 16);
        T.due("ways(1)", x.ways(1), true);
        worths(x, 0, 2, 0, 0, 0, 1);
        T.due("ways(3)", x.ways(3), true);
        T.due("WAYS", x.count(6), 3);
        worths(x, 0, 4, 0, 0, 0, 81);
        T.due("weight(2, 4)", x.weight(2, 4), true);
        worths(x, 0, 4, 0, 0, 0, 1296);
        T.due("weight(2, 5)", x.weight(2, 5), false);
        T.due("weight(2, 0)", x.weight(2, 0), false);
        T.due("weight(3, 1)", x.weight(3, 1), false);
        T.due("weight(-1, 1)", x.weight(-1, 1), false);
        worths(x, 0, 1, 0, 0, 0, 6);
        T.due("adds(2, 5, 99)", x.adds(2, 5, 99), true);
        T.due("adds(2, 5, -99)", x.adds(2, 5, -99), true);
        T.due("adds(2, 5, 100)", x.adds(2, 5, 100), false);
        T.due("adds(2, 5, -100)", x.adds(2, 5, -100), false);
        T.due("adds(2, 6, 1)", x.adds(2, 6, 1), false);
        T.due("adds(2, -1, 1)", x.adds(2, -1, 1), false);
        T.due("adds(3, 0, 1)", x.adds(3, 0, 1), false);
        T.due("adds(-1, 0, 1)", x.adds(-1, 0, 1), false);
        T.due("ways(2) and 3 again forget", x.ways(2) && x.ways(3), true);
        worths(x, 0, 4, 0, 0, 0, 81);
        DeedTongue y = with("when s5*s5>0:one");
        y.adds(0, 5, 1);
        worths(y, 0, 1, 1, 1, 1, 1);
        y.ways(3);
        worths(y, 0, 4, 0, 0, 0, 81);
        y.adds(2, 5, -99);
        worths(y, 0, 1, 1, 0, 1, 3);
        y.ways(3);
        worths(y, 0, 4, 0, 0, 0, 81);
    }

    private static void refusedWorth() {
        DeedTongue x = with("one");
        T.due("FORM 1", x.worth(1, 1, 0), NO);
        T.due("FORM -1", x.worth(-1, 1, 3), NO);
        T.due("n 0", x.worth(0, 0, 0), NO);
        T.due("n 5", x.worth(0, 5, 0), NO);
        T.due("n 0", x.worth(0, 0, 3), NO);
        T.due("n -1", x.worth(0, -1, 1), NO);
        T.due("what 4", x.worth(0, 1, 4), NO);
        T.due("what -1", x.worth(0, 1, -1), NO);
        T.due("no FORM, what 3", new DeedTongue().worth(0, 1, 3), NO);
    }

    private static void plainWorths() {
        DeedTongue x = with("nothing", "one", "scale 5:give one", "both(one,cap 3 scale 9:one)",
                "then 1(one,scale 2:one)", "or(one,scale 2:one)", "give or(one,scale 2:one)",
                "scale s0:one", "until s0=4:one");
        x.see(0, 0, 4);
        upAndDown(x);
        worths(x, 0, 1, 0, 0, 0, 4);
        worths(x, 1, 1, 4, 1, 1, 4);
        worths(x, 1, 4, 256, 1, 1, 256);
        worths(x, 2, 2, -80, -5, -5, 16);
        worths(x, 3, 1, 16, 4, 4);
        worths(x, 4, 1, 4, 1, 1);
        worths(x, 5, 1, 8, 2, 2);
        // The second side chooses what is the least for the first.
        worths(x, 6, 1, -8, -2, -2);
        worths(x, 7, 1, 16, 4, 4);
        worths(x, 8, 1, 0, 0, 0);
        DeedTongue y = with(Due.times(11, "give ") + "one", Due.times(10, "give ") + "when day=1:one");
        worths(y, 0, 1, -1, -1, -1);
        worths(y, 1, 1, 1, 1, 1);
        comes(y, 0, 1, "111111111111");
        comes(y, 1, 1, "111111111111");
        T.due("within 11", y.parted(0, 1, 1), 0);
        T.due("nothing is paid by it", x.count(3), 0);
        T.due("no LIFE comes of it", x.count(2), 0);
    }

    private static void waitingWorths() {
        DeedTongue x = with("when s0>0:scale s0:one", "when s0>1:scale s0:one", "when day>1:scale s0:one",
                "when s0>9:one", "when day=0:one");
        upAndDown(x);
        // n 1: up pays 1 (weight 3), down nothing.
        worths(x, 0, 1, 3, 0, 1, 4);
        // n 2: up at once 3*(1 on DAY 1 = 4 of 16), down then up is 0 still.
        worths(x, 0, 2, 12, 0, 1, 16);
        // n 3: down, up, up: 1 * 3 * 3 * 1.
        worths(x, 0, 3, 48 + 9, 0, 1, 64);
        worths(x, 1, 2, 3 * 3 * 2, 0, 2);
        // DAY 2: 2 by 9, 0 by 6, -2 by 1.
        worths(x, 2, 2, 18 - 2, -2, 2);
        worths(x, 2, 1, 0, 0, 0);
        worths(x, 3, 4, 0, 0, 0);
        worths(x, 4, 1, 4, 1, 1);
        x.day();
        x.see(0, 1, -1);
        worths(x, 0, 2, 9, 0, 1);
        worths(x, 4, 4, 0, 0, 0);
    }

    private static void choicesOfBothSides() {
        DeedTongue x = with("anytime 1=1:scale s0:one", "give anytime 1=1:scale s0:one",
                "anytime s0>=0:scale s0+1:one", "or(when day=1:scale s0*4:one,scale 2:one)",
                "anytime s0=0:one", "give or(when day=1:scale s0:one,nothing)");
        upAndDown(x);
        // n 1: taken NOW 0; waiting: 3 * max(0, 1) + 1 * max(0, -1) = 3.
        worths(x, 0, 1, 3, 0, 1);
        // The other side would rather wait: 3 * min(0, -1) + 1 * min(0, 1).
        worths(x, 1, 1, -3, -1, 0);
        // NOW 1 * 4; waiting: 3 * 2 + 0.
        worths(x, 2, 1, 6, 1, 2);
        // MEAN: 3*4 - 1*4 = 8 against 2 * 4 = 8; LEAST: -4 against 2; MOST: 4 against 2.
        worths(x, 3, 1, 8, 2, 4);
        worths(x, 4, 1, 4, 1, 1);
        // MEAN of -s0: -3 + 1 = -2 against 0, the lesser; LEAST -1, MOST min(1, 0).
        worths(x, 5, 1, -2, -1, 0);
        DeedTongue y = with("both(anytime 1=1:scale s0:one,anytime 1=1:scale 0-s0:one)");
        upAndDown(y);
        // Each by itself: max(0, 3) and max(0, 1).
        worths(y, 0, 1, 4, 0, 2);
    }

    private static void lapsingWorths() {
        DeedTongue x = with("until s0<0:when day=2:one", "until s0=1:anytime s0>=0:scale s0*s0+1:one",
                "until day=2:when day=2:one", "when s0=1:until s0=1:one");
        upAndDown(x);
        // up up, up down: 9 + 3; down lapses on DAY 1, though it may come back.
        worths(x, 0, 2, 12, 0, 1);
        worths(x, 0, 1, 0, 0, 0);
        // NOW 1 * 16; waiting is worth nothing: up is LAPSED, down is out of the TEST, then 0 again: 1*3*1.
        worths(x, 1, 2, 16, 1, 1);
        worths(x, 2, 3, 0, 0, 0);
        worths(x, 3, 2, 0, 0, 0);
    }

    private static void daysBeyond() {
        DeedTongue x = with("when day>401:one", "then 402(when s0>99:one,nothing)", "when day=403:scale s0:one");
        x.see(0, 0, 9990);
        x.ways(1);
        x.adds(0, 0, 99);
        for (int i = 1; i < 400; i++) {
            x.day();
        }
        T.due("NOW", x.count(0), 399);
        worths(x, 0, 3, 1, 1, 1, 1);
        worths(x, 0, 2, 0, 0, 0, 1);
        worths(x, 1, 1, 1, 1, 1, 1);
        worths(x, 2, 4, 9990 + 4 * 99, 10386, 10386, 1);
        worths(x, 2, 3, 0, 0, 0, 1);
    }

    private static void comes(DeedTongue x, int form, int n, String due) {
        for (int k = 0; k < due.length(); k++) {
            T.due("comeTo(" + form + ", " + n + ", " + k + ")", x.comeTo(form, n, k), due.charAt(k) - '0');
        }
        T.due("comeTo behind the last WORD", x.comeTo(form, n, due.length()), -1);
    }

    private static void comesTo() {
        DeedTongue x = with("both(one,or(give one,nothing))", "then 1(one,both(one,one))",
                "when s0>2:one", "anytime s0=0-2:then 2(one,one)", "until s0>0:both(when s0=2:one,when s0=0-2:one)",
                "until 1=1:both(one,one)", "when s0=1:when s0=0:when s0=0-1:one", "when day=1:then 1(one,one)",
                "scale 0:cap 0 one");
        upAndDown(x);
        comes(x, 0, 1, "111111");
        comes(x, 1, 4, "11000");
        comes(x, 2, 2, "10");
        comes(x, 2, 3, "11");
        comes(x, 3, 2, "1101");
        comes(x, 3, 1, "1000");
        comes(x, 4, 4, "111011");
        comes(x, 5, 4, "1000");
        comes(x, 6, 1, "1100");
        comes(x, 6, 2, "1110");
        comes(x, 6, 3, "1111");
        comes(x, 7, 1, "1101");
        // COME TO is what is ACQUIRED, whatever it pays.
        comes(x, 8, 1, "111");
        T.due("FORM 9", x.comeTo(9, 1, 0), -1);
        T.due("FORM -1", x.comeTo(-1, 1, 0), -1);
        T.due("n 0", x.comeTo(0, 0, 0), -1);
        T.due("n 5", x.comeTo(0, 5, 0), -1);
        T.due("k -1", x.comeTo(0, 1, -1), -1);
        DeedTongue y = with("anytime day=1:one", "anytime day<1:anytime day>1:one");
        comes(y, 0, 1, "11");
        comes(y, 1, 1, "110");
        comes(y, 1, 2, "111");
    }

    private static void partings() {
        DeedTongue x = with("one", "give give one", "scale 2:one", "when s0>1:one", "when s0>=2:one",
                "when s0>0:one", "when s0=0-1:one", "both(scale 3:one,scale 2:give one)", "nothing",
                "when day=2:scale s0*s0:one", "when day=2:scale s0+2:one");
        upAndDown(x);
        T.due("themselves", x.parted(0, 0, 4), -2);
        T.due("in other words", x.parted(0, 1, 4), -2);
        T.due("NOW already", x.parted(0, 2, 3), 0);
        T.due("never seen", x.parted(3, 4, 4), -2);
        T.due("together alike", x.parted(0, 7, 2), -2);
        T.due("one up", x.parted(3, 5, 1), 0);
        T.due("up at once", x.parted(8, 3, 2), 0);
        T.due("not within a DAY", x.parted(8, 3, 1), -2);
        T.due("down", x.parted(8, 6, 1), 1);
        // Up never goes below 0 again within two DAYS, down does at once.
        T.due("down, up", x.parted(8, 6, 2), 10);
        T.due("up, down, down", x.parted(8, 6, 3), 11);
        T.due("up, down, down, up", x.parted(8, 6, 4), 110);
        // 4 and 4 of up, up; 0 and 2 of up, down.
        T.due("up, down", x.parted(9, 10, 2), 1);
        T.due("up, down, up", x.parted(9, 10, 3), 10);
        T.due("up, down, up, up", x.parted(10, 9, 4), 100);
        DeedTongue y = with("nothing", "when s0+s1*10+s2*100=222:one", "when s0=2:one");
        y.ways(3);
        for (int way = 0; way < 3; way++) {
            y.adds(way, 0, way);
        }
        T.due("0, 0, 2", y.parted(0, 2, 3), 2);
        T.due("0, 0, 0, 2", y.parted(0, 2, 4), 2);
        y.adds(0, 0, -9);
        T.due("1, 1, 0, 0", y.parted(2, 0, 4), 1100);
        y.adds(1, 0, -9);
        T.due("2, 0, 0, 0", y.parted(2, 0, 4), 2000);
        T.due("2, 0", y.parted(2, 0, 2), 20);
        T.due("none", y.parted(1, 0, 4), -2);
        T.due("nothing was lived", y.count(2), 0);
    }

    private static void refusedPartings() {
        DeedTongue x = with("one", "or(one,one)", "give anytime 1=1:one", "scale 0:or(one,one)");
        T.due("an or", x.parted(0, 1, 1), -1);
        T.due("an or", x.parted(1, 0, 1), -1);
        T.due("an anytime", x.parted(2, 0, 1), -1);
        T.due("an anytime", x.parted(0, 2, 1), -1);
        T.due("an or inside", x.parted(0, 3, 1), -1);
        T.due("FORM 4", x.parted(0, 4, 1), -1);
        T.due("FORM -1", x.parted(-1, 0, 1), -1);
        T.due("n 0", x.parted(0, 0, 0), -1);
        T.due("n 5", x.parted(0, 0, 5), -1);
    }
}
