/** The edges of part V and of promises 23 to 28: WAYS, WEIGHTS, what WAYS add, and WORLDS of 1 to 4 DAYS. */
public final class EdgesWorldsTest {
    private static final Due T = new Due("EdgesWorldsTest");
    private static final long NO = -1000000000000000000L;

    public static void main(String[] args) {
        atFirst();
        numbersOfWays();
        waysFromNowOn();
        weights();
        waysOfWeights();
        adds();
        waysAndThingsOfAdds();
        thingsAsTheyAreNow();
        daysOfAWorld();
        beyond399();
        worthsOfOne();
        waitingOnTheLastDay();
        whatIsAsked();
        greatestWorths();
        lapsedThere();
        choosers();
        leastAndMost();
        comeToWords();
        comeToDays();
        comeToChoices();
        partedWorlds();
        partedDays();
        partedTogether();
        partedRefused();
        T.finish();
    }

    private static DeedTongue with(String... texts) {
        DeedTongue x = new DeedTongue();
        for (int i = 0; i < texts.length; i++) {
            T.due("form of '" + texts[i] + "'", Due.read(x, texts[i]), i);
        }
        return x;
    }

    private static void worths(DeedTongue x, int form, int n, long mean, long least, long most) {
        long[] due = {mean, least, most};
        for (int what = 0; what < 3; what++) {
            T.due("worth(" + form + ", " + n + ", " + what + ")", x.worth(form, n, what), due[what]);
        }
    }

    private static void atFirst() {
        T.says("At first one WAY of WEIGHT 1.");
        DeedTongue x = with("when day=1:both(scale s0:one,scale s5:one)", "one");
        T.due("WAYS", x.count(6), 1);
        for (int n = 1; n <= 4; n++) {
            T.due("all WEIGHTS", x.worth(1, n, 3), 1);
        }
        worths(x, 0, 1, 0, 0, 0);
        T.due("WAY 0", x.weight(0, 1), true);
        T.due("no WAY 1", x.weight(1, 1), false);
        T.due("no WAY 1", x.adds(1, 0, 0), false);
    }

    private static void numbersOfWays() {
        T.says("WORLDS: 1 to 3 WAYS");
        DeedTongue x = with("one");
        for (int n = 1; n <= 3; n++) {
            T.due("ways(" + n + ")", x.ways(n), true);
            T.due("WAYS", x.count(6), n);
            T.due("all WEIGHTS", x.worth(0, 1, 3), n);
            for (int not : new int[] {0, 4, -1, -3, Integer.MIN_VALUE, Integer.MAX_VALUE}) {
                T.due("ways(" + not + ")", x.ways(not), false);
                T.due("WAYS", x.count(6), n);
            }
        }
        T.due("fewer again", x.ways(1), true);
        T.due("WAYS", x.count(6), 1);
    }

    private static void waysFromNowOn() {
        T.says("WAYS from now on (1 to 3), all of WEIGHT 1, that add nothing: true");
        DeedTongue x = with("when day=1:both(scale s0*s0:one,scale s5*s5:one)");
        for (int n = 1; n <= 3; n++) {
            x.ways(3);
            for (int way = 0; way < 3; way++) {
                x.weight(way, 4);
                x.adds(way, 0, 9);
                x.adds(way, 5, -9);
            }
            T.due("all WEIGHTS", x.worth(0, 1, 3), 12);
            T.due("MEAN", x.worth(0, 1, 0), 12 * 162);
            T.due("ways(" + n + ")", x.ways(n), true);
            T.due("all WEIGHTS", x.worth(0, 1, 3), n);
            worths(x, 0, 1, 0, 0, 0);
            // What the WAYS beyond it had is gone, too.
            x.ways(3);
            T.due("all WEIGHTS of 3", x.worth(0, 1, 3), 3);
            worths(x, 0, 1, 0, 0, 0);
        }
    }

    private static void weights() {
        T.says("each with a WEIGHT (1 to 4)");
        DeedTongue x = with("one");
        for (int w = 1; w <= 4; w++) {
            T.due("weight(0, " + w + ")", x.weight(0, w), true);
            T.due("all WEIGHTS", x.worth(0, 1, 3), w);
            for (int not : new int[] {0, 5, -1, Integer.MIN_VALUE, Integer.MAX_VALUE}) {
                T.due("weight(0, " + not + ")", x.weight(0, not), false);
                T.due("all WEIGHTS stay", x.worth(0, 1, 3), w);
            }
        }
        x.ways(3);
        T.due("4 of each", x.weight(0, 4) && x.weight(1, 4) && x.weight(2, 4), true);
        long all = 1;
        for (int n = 1; n <= 4; n++) {
            all *= 12;
            T.due("12^" + n, x.worth(0, n, 3), all);
            T.due("MEAN of one", x.worth(0, n, 0), all);
        }
        x.weight(1, 2);
        T.due("the WEIGHT as told last", x.worth(0, 1, 3), 10);
    }

    private static void waysOfWeights() {
        T.says("The WEIGHT of a WAY (1 to 4): true; false, and nothing happens, for others.");
        DeedTongue x = with("one");
        for (int n = 1; n <= 3; n++) {
            x.ways(n);
            T.due("WAY -1", x.weight(-1, 2), false);
            T.due("WAY " + n, x.weight(n, 2), false);
            T.due("all WEIGHTS", x.worth(0, 1, 3), n);
            T.due("WAY " + (n - 1), x.weight(n - 1, 2), true);
            T.due("all WEIGHTS", x.worth(0, 1, 3), n + 1);
        }
        x.ways(2);
        T.due("WAY 2 of two", x.weight(2, 4), false);
        x.ways(3);
        T.due("nothing happened", x.worth(0, 1, 3), 3);
    }

    private static void adds() {
        T.says("what it adds to each THING (-99 to 99; 0 at first)");
        DeedTongue x = with("when day=1:scale s3:one");
        worths(x, 0, 1, 0, 0, 0);
        for (int v : new int[] {-99, -98, -1, 0, 1, 98, 99}) {
            T.due("adds " + v, x.adds(0, 3, v), true);
            worths(x, 0, 1, v, v, v);
            for (int not : new int[] {-100, 100, Integer.MIN_VALUE, Integer.MAX_VALUE}) {
                T.due("adds " + not, x.adds(0, 3, not), false);
                T.due("it stays", x.worth(0, 1, 0), v);
            }
        }
    }

    private static void waysAndThingsOfAdds() {
        T.says("What a WAY adds to a THING: true; false, and nothing happens, for others.");
        DeedTongue x = with("when day=1:scale s0:one", "when day=1:scale s1:one", "when day=1:scale s2:one",
                "when day=1:scale s3:one", "when day=1:scale s4:one", "when day=1:scale s5:one");
        for (int n = 1; n <= 3; n++) {
            x.ways(n);
            T.due("WAY -1", x.adds(-1, 5, 7), false);
            T.due("WAY " + n, x.adds(n, 0, 7), false);
            T.due("THING -1", x.adds(n - 1, -1, 7), false);
            T.due("THING 6", x.adds(0, 6, 7), false);
            for (int thing = 0; thing < 6; thing++) {
                worths(x, thing, 1, 0, 0, 0);
            }
        }
        for (int thing = 0; thing < 6; thing++) {
            x.ways(3);
            T.due("WAY 2, THING " + thing, x.adds(2, thing, 7), true);
            for (int other = 0; other < 6; other++) {
                worths(x, other, 1, other == thing ? 7 : 0, 0, other == thing ? 7 : 0);
            }
        }
        // What is not taken is not kept for a THING or a WAY beside it either.
        x.ways(3);
        x.adds(0, 6, 7);
        x.adds(1, -1, 7);
        for (int thing = 0; thing < 6; thing++) {
            worths(x, thing, 1, 0, 0, 0);
        }
    }

    private static void thingsAsTheyAreNow() {
        T.says("THINGS begin as they are NOW, each WAY adds as the DAY comes.");
        DeedTongue x = with("scale s0:one", "when day=3:scale s0:one", "when day=4:scale s0:one");
        x.adds(0, 0, 10);
        x.see(0, 0, 5);
        x.day();
        x.day();
        worths(x, 0, 4, 5, 5, 5);
        worths(x, 1, 1, 15, 15, 15);
        worths(x, 2, 2, 25, 25, 25);
        x.see(0, 2, -9999);
        worths(x, 1, 1, -9989, -9989, -9989);
        x.see(0, 2, 9999);
        worths(x, 0, 1, 9999, 9999, 9999);
        worths(x, 1, 1, 10009, 10009, 10009);
        T.due("what is seen stays", x.seen(0, 2), 9999);
        T.due("also later", x.seen(0, 3), 9999);
        T.due("NOW stays", x.count(0), 2);
    }

    private static void daysOfAWorld() {
        T.says("A WORLD of n DAYS (1 to 4) behind NOW: a WAY for each");
        DeedTongue x = with("one");
        for (int n : new int[] {0, 5, -1, Integer.MIN_VALUE, Integer.MAX_VALUE}) {
            for (int what = 0; what < 4; what++) {
                T.due("worth over " + n, x.worth(0, n, what), NO);
            }
            T.due("comeTo over " + n, x.comeTo(0, n, 0), -1);
            T.due("parted over " + n, x.parted(0, 0, n), -1);
        }
        for (int n = 1; n <= 4; n++) {
            worths(x, 0, n, 1, 1, 1);
            T.due("comeTo over " + n, x.comeTo(0, n, 0), 1);
            T.due("parted over " + n, x.parted(0, 0, n), -2);
        }
        T.says("over the DAYS NOW to NOW + n");
        DeedTongue y = with("when day=2:one", "when day=3:one", "when day=4:one", "when day=5:one", "when day=6:one",
                "when day=7:one");
        y.day();
        y.day();
        for (int form = 0; form < 6; form++) {
            for (int n = 1; n <= 4; n++) {
                int due = form <= n ? 1 : 0;
                worths(y, form, n, due, due, due);
                T.due("comeTo", y.comeTo(form, n, 1), due);
            }
        }
    }

    private static void beyond399() {
        T.says("(DAYS go on beyond 399 there.)");
        DeedTongue x = with("when day=400:one", "when day=403:one", "when day=404:one", "when day>=400:then 400(one,give one)");
        for (int i = 0; i < 399; i++) {
            x.day();
        }
        T.due("NOW", x.count(0), 399);
        worths(x, 0, 1, 1, 1, 1);
        worths(x, 1, 4, 1, 1, 1);
        worths(x, 1, 3, 0, 0, 0);
        worths(x, 2, 4, 0, 0, 0);
        worths(x, 3, 1, -1, -1, -1);
        T.due("comeTo", x.comeTo(1, 4, 1), 1);
        T.due("comeTo", x.comeTo(2, 4, 1), 0);
        T.due("parted", x.parted(1, 2, 4), 0);
        T.due("parted", x.parted(1, 2, 3), -2);
        T.due("but none begins", x.day(), -1);
    }

    private static void worthsOfOne() {
        T.says("one: its PAYMENT, of MEAN times (all WEIGHTS)^m");
        DeedTongue x = with("one", "when day=1:one", "when day=2:one", "when day=3:one", "when day=4:one",
                "cap 3 scale 5:give one", "cap 0 one", "scale 0:one");
        x.ways(2);
        x.weight(0, 4);
        x.weight(1, 3);
        long all = 1;
        for (int n = 1; n <= 4; n++) {
            all *= 7;
            for (int m = 0; m <= n; m++) {
                // Whatever DAY it is paid on: the WEIGHTS of the DAYS ahead of it and behind it are all.
                worths(x, n - m, n, all, 1, 1);
            }
            worths(x, 5, n, -3 * all, -3, -3);
            worths(x, 6, n, 0, 0, 0);
            worths(x, 7, n, 0, 0, 0);
        }
    }

    private static void waitingOnTheLastDay() {
        T.says("A when whose TEST does not hold WAITS: 0 if m is 0");
        DeedTongue x = with("when s0=2:one", "when s0=1:scale 0-5:one", "anytime s0=1:scale 0-5:one", "give anytime s0=1:give scale 5:one");
        x.ways(2);
        x.weight(0, 2);
        x.adds(0, 0, 1);
        worths(x, 0, 1, 0, 0, 0);
        worths(x, 0, 2, 4, 0, 1);
        worths(x, 1, 1, -10, -5, 0);
        T.says("anytime: as if it WAITS; if its TEST holds, the greater (lesser) one of that and its DEED's.");
        // On the last DAY the CHOOSER takes what is above 0 for him, and lets the rest go.
        worths(x, 2, 1, 0, 0, 0);
        worths(x, 3, 1, 0, 0, 0);
        DeedTongue y = with("anytime s0=1:scale 5:one", "give anytime s0=1:scale 5:one");
        y.ways(2);
        y.weight(0, 2);
        y.adds(0, 0, 1);
        worths(y, 0, 1, 10, 0, 5);
        worths(y, 1, 1, -10, -5, 0);
    }

    private static void whatIsAsked() {
        T.says("0: MEAN (the whole number), 1: LEAST, 2: MOST, 3: (all WEIGHTS)^n; -1000000000000000000 without these.");
        DeedTongue x = with("one");
        for (int what : new int[] {-1, 4, Integer.MIN_VALUE, Integer.MAX_VALUE}) {
            T.due("what " + what, x.worth(0, 1, what), NO);
        }
        for (int what = 0; what < 4; what++) {
            T.due("what " + what, x.worth(0, 1, what), 1);
            T.due("FORM -1", x.worth(-1, 1, what), NO);
            T.due("FORM 1", x.worth(1, 1, what), NO);
            T.due("FORM 20", x.worth(20, 1, what), NO);
            T.due("no DAYS", x.worth(0, 0, what), NO);
            T.due("5 DAYS", x.worth(0, 5, what), NO);
        }
        for (int i = 1; i < 20; i++) {
            x.shorter(0);
        }
        T.due("FORM 19", x.worth(19, 1, 0), 1);
        T.due("FORM 20", x.worth(20, 1, 0), NO);
    }

    private static void greatestWorths() {
        String ones = Due.bush(16, "one");
        DeedTongue x = with("scale 1000*1000:" + ones, "give scale 1000*1000:" + ones);
        x.ways(3);
        for (int way = 0; way < 3; way++) {
            x.weight(way, 4);
        }
        worths(x, 0, 4, 16000000L * 20736, 16000000, 16000000);
        worths(x, 1, 4, -16000000L * 20736, -16000000, -16000000);
    }

    private static void lapsedThere() {
        T.says("LAPSED, nothing: 0.");
        DeedTongue x = with("until day=1:when day=1:one", "until day=2:when day=1:one", "until day=0:one", "until day=1:one",
                "until day>=1:anytime day>=1:one", "until s0=1:when day=2:one", "nothing");
        x.ways(2);
        x.adds(0, 0, 1);
        x.adds(1, 0, 2);
        worths(x, 0, 4, 0, 0, 0);
        worths(x, 1, 1, 2, 1, 1);
        worths(x, 2, 1, 0, 0, 0);
        worths(x, 3, 1, 2, 1, 1);
        worths(x, 4, 4, 0, 0, 0);
        // s0 is 1 on DAY 1 by WAY 0 alone.
        worths(x, 5, 2, 2, 0, 1);
        worths(x, 6, 4, 0, 0, 0);
    }

    private static void choosers() {
        T.says("the greater one of both DEEDS', if the CHOOSER is the first side, else the lesser one");
        DeedTongue x = with("or(one,give one)", "or(give one,one)", "give or(one,give one)", "give or(give one,one)",
                "give give or(one,give one)", "or(one,one)", "or(nothing,give one)", "give or(nothing,give one)");
        int[] due = {1, 1, -1, -1, 1, 1, 0, 0};
        for (int form = 0; form < due.length; form++) {
            worths(x, form, 1, due[form], due[form], due[form]);
        }
    }

    private static void leastAndMost() {
        T.says("MEAN: each times its WEIGHT, together; LEAST: the least; MOST: the greatest");
        DeedTongue x = with("when day=1:scale s0:one", "when day=1:scale 0-s0:one");
        x.ways(3);
        int[][] rows = {{-99, 0, 99}, {99, 0, -99}, {0, 99, -99}, {5, 5, 5}, {-1, -2, -3}, {3, 1, 2}};
        for (int[] row : rows) {
            long mean = 0;
            for (int way = 0; way < 3; way++) {
                x.weight(way, 2 + way);
                x.adds(way, 0, row[way]);
                mean += (2 + way) * row[way];
            }
            int least = Math.min(row[0], Math.min(row[1], row[2]));
            int most = Math.max(row[0], Math.max(row[1], row[2]));
            worths(x, 0, 1, mean, least, most);
            worths(x, 1, 1, -mean, -most, -least);
        }
    }

    private static void comeToWords() {
        T.says("1 if WORD k of a FORM is COME TO over n DAYS, 0 if not; NONE without these.");
        DeedTongue x = with("both(one,then 0(one,one))");
        int[] due = {1, 1, 1, 0, 1};
        for (int k = 0; k < due.length; k++) {
            T.due("WORD " + k, x.comeTo(0, 1, k), due[k]);
            T.due("FORM -1", x.comeTo(-1, 1, k), -1);
            T.due("FORM 1", x.comeTo(1, 1, k), -1);
        }
        for (int k : new int[] {-1, 5, 39, 40, Integer.MIN_VALUE, Integer.MAX_VALUE}) {
            T.due("WORD " + k, x.comeTo(0, 1, k), -1);
        }
        DeedTongue y = with("both(" + Due.bush(16, "one") + ",both(both(one,one),both(one,until day>=0:one)))");
        T.due("words", y.words(0), 40);
        T.due("WORD 38, the until", y.comeTo(0, 4, 38), 1);
        T.due("WORD 39, LAPSED by it", y.comeTo(0, 4, 39), 0);
        T.due("WORD 40", y.comeTo(0, 4, 40), -1);
    }

    private static void comeToDays() {
        T.says("COME TO is a WORD, if in some WORLD with some choices it is ACQUIRED and not LAPSED.");
        DeedTongue x = with("when s0=8:one", "until s0=6:when s0=8:one", "when s0=8:until s0=8:one", "when day=4:when day=5:one");
        x.ways(3);
        x.adds(2, 0, 2);
        x.adds(1, 0, 1);
        for (int n = 1; n <= 4; n++) {
            // The last WORLD alone comes to 8, and has 6 on its third DAY.
            T.due("over " + n, x.comeTo(0, n, 1), n == 4 ? 1 : 0);
            T.due("the when, over " + n, x.comeTo(1, n, 1), 1);
            T.due("LAPSED on the way, over " + n, x.comeTo(1, n, 2), 0);
            T.due("the until, over " + n, x.comeTo(2, n, 1), n == 4 ? 1 : 0);
            T.due("LAPSED there, over " + n, x.comeTo(2, n, 2), 0);
            T.due("the second when, over " + n, x.comeTo(3, n, 1), n == 4 ? 1 : 0);
            T.due("a DAY too late, over " + n, x.comeTo(3, n, 2), 0);
        }
    }

    private static void comeToChoices() {
        DeedTongue x = with("or(one,give or(one,nothing))", "anytime day=0:one", "anytime day=4:one", "anytime day=5:one",
                "anytime 1=1:when day=0:one", "anytime 1=1:then 4(one,give one)", "until day=3:anytime day=3:one");
        for (int k = 0; k < 6; k++) {
            T.due("either choice, WORD " + k, x.comeTo(0, 1, k), 1);
        }
        int[][] due = {{1, 1, 1, 1}, {0, 0, 0, 1}, {0, 0, 0, 0}, {1, 1, 1, 1}};
        int[] words = {1, 1, 1, 2};
        for (int i = 0; i < due.length; i++) {
            for (int n = 1; n <= 4; n++) {
                T.due("FORM " + (i + 1) + " over " + n, x.comeTo(i + 1, n, words[i]), due[i][n - 1]);
            }
        }
        T.due("t below 4", x.comeTo(5, 4, 2), 1);
        T.due("t of 4", x.comeTo(5, 4, 3), 1);
        T.due("t of 4 is not there", x.comeTo(5, 3, 3), 0);
        T.due("the anytime", x.comeTo(6, 4, 1), 1);
        T.due("LAPSED as it could be taken", x.comeTo(6, 4, 2), 0);
    }

    private static void partedWorlds() {
        T.says("The first: by the WAY of the first DAY, then of the second, and so on.");
        DeedTongue x = with("nothing", "when s0=2:one", "when s0=4:one", "when s0=6:one", "when s0=8:one", "one");
        x.ways(3);
        x.adds(2, 0, 2);
        x.adds(1, 0, 1);
        int last = 0;
        for (int n = 1; n <= 4; n++) {
            last = last * 10 + 2;
            T.due("the last WORLD of " + n, x.parted(0, n, n), last);
            T.due("the other way round", x.parted(n, 0, n), last);
            T.due("the first WORLD of " + n, x.parted(0, 5, n), 0);
            T.says("its number, WAYS as digits (the first DAY's the highest); -2: none");
            if (n < 4) {
                T.due("none of " + n, x.parted(0, n + 1, n), -2);
            }
        }
        // 0 and 2 come first of those to 2, 0 and 2 and 2 of those to 4, and so on.
        T.due("2 by 02", x.parted(0, 1, 2), 2);
        T.due("2 by 002", x.parted(0, 1, 3), 2);
        T.due("4 by 022", x.parted(0, 2, 3), 22);
        T.due("4 by 0022", x.parted(0, 2, 4), 22);
        T.due("6 by 0222", x.parted(0, 3, 4), 222);
        x.adds(0, 0, -50);
        T.due("2 by 11", x.parted(0, 1, 2), 11);
        T.due("2 by 110", x.parted(0, 1, 3), 110);
        T.due("4 by 1111", x.parted(0, 2, 4), 1111);
        T.due("6 by 1122", x.parted(0, 3, 4), 1122);
    }

    private static void partedDays() {
        T.says("if on some DAY of it their PAYMENTS together are not alike");
        DeedTongue x = with("nothing", "one", "when day=1:one", "when day=4:one", "when day=5:one", "until day=1:when day=1:one");
        for (int n = 1; n <= 4; n++) {
            T.due("on DAY 0", x.parted(0, 1, n), 0);
            T.due("on DAY 1", x.parted(0, 2, n), 0);
            T.due("on DAY 0 and on DAY 1", x.parted(1, 2, n), 0);
            T.due("on DAY 4", x.parted(0, 3, n), n == 4 ? 0 : -2);
            T.due("on DAY 5", x.parted(0, 4, n), -2);
            T.due("LAPSED", x.parted(0, 5, n), -2);
        }
    }

    private static void partedTogether() {
        DeedTongue x = with("both(one,give one)", "nothing", "both(scale 2:one,one)", "scale 3:one", "both(one,when day=1:give one)",
                "scale 1000*1000:one", "scale 1000*1000+1:one", "scale 1000*1000-1:one", "both(one,scale 1000*1000-1:one)", "cap 3 scale 4:one");
        T.due("1 and -1", x.parted(0, 1, 1), -2);
        T.due("2 and 1 and 3", x.parted(2, 3, 1), -2);
        T.due("1 and -1 on two DAYS", x.parted(4, 1, 1), 0);
        T.due("held alike", x.parted(5, 6, 1), -2);
        T.due("not held", x.parted(5, 7, 1), 0);
        T.due("together alike", x.parted(5, 8, 1), -2);
        T.due("capped alike", x.parted(9, 3, 1), -2);
    }

    private static void partedRefused() {
        T.says("NONE without these, or with an or, an anytime.");
        DeedTongue x = with("one", "or(one,one)", "anytime 1=1:one", "until 1=1:or(one,one)", "then 0(anytime 1=1:one,one)",
                "both(one,give or(one,one))");
        for (int form = 1; form < 6; form++) {
            T.due("FORM " + form, x.parted(form, 0, 1), -1);
            T.due("FORM " + form, x.parted(0, form, 1), -1);
            T.due("FORM " + form, x.parted(form, form, 1), -1);
        }
        for (int form : new int[] {-1, 6, 20, Integer.MIN_VALUE, Integer.MAX_VALUE}) {
            T.due("FORM " + form, x.parted(form, 0, 1), -1);
            T.due("FORM " + form, x.parted(0, form, 1), -1);
        }
        T.due("n 0", x.parted(0, 0, 0), -1);
        T.due("n 1", x.parted(0, 0, 1), -2);
        T.due("n 4", x.parted(0, 0, 4), -2);
        T.due("n 5", x.parted(0, 0, 5), -1);
        // SHORTER it has no or any more.
        T.due("shorter", x.shorter(1), 6);
        T.due("without the or", x.parted(6, 0, 1), -2);
    }
}
