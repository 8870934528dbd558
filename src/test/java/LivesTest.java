/** Promises 13 to 20: begin, day, stands, standing, choose, take, payment, got. */
public final class LivesTest {
    private static final Due T = new Due("LivesTest");

    public static void main(String[] args) {
        begun();
        refusedBegin();
        immediate();
        sums();
        signs();
        thenAndUntil();
        whens();
        ors();
        anytimes();
        order();
        standingFields();
        lapses();
        payments();
        manyLives();
        T.finish();
    }

    /** An object with a FORM that is lived between the HOUSES 2 and 5. */
    private static DeedTongue live(String text) {
        DeedTongue x = new DeedTongue();
        T.due("form of '" + text + "'", Due.read(x, text), 0);
        T.due("begin '" + text + "'", x.begin(0, 2, 5), 0);
        return x;
    }

    private static void pays(String text, long want) {
        DeedTongue x = live(text);
        T.due("got of '" + text + "'", x.got(0), want);
    }

    private static void begun() {
        DeedTongue x = live("both(one,scale 3:give one)");
        T.due("LIVES", x.count(2), 1);
        T.due("PAYMENTS", x.count(3), 2);
        int[][] due = {{0, 0, 1, 1}, {0, 0, -3, 4}};
        for (int k = 0; k < 2; k++) {
            for (int what = 0; what < 4; what++) {
                T.due("payment(" + k + ", " + what + ")", x.payment(k, what), due[k][what]);
            }
        }
        T.due("got", x.got(0), -2);
        T.due("stands", x.stands(0), 0);
        T.due("a LIFE more", x.begin(0, 7, 0), 1);
        T.due("PAYMENTS", x.count(3), 4);
        T.due("its LIFE", x.payment(3, 0), 1);
    }

    private static void refusedBegin() {
        DeedTongue x = new DeedTongue();
        T.due("no FORM", x.begin(0, 0, 1), -1);
        Due.read(x, "one");
        T.due("FORM -1", x.begin(-1, 0, 1), -1);
        T.due("FORM 1", x.begin(1, 0, 1), -1);
        T.due("HOUSE -1", x.begin(0, -1, 1), -1);
        T.due("HOUSE 8", x.begin(0, 8, 1), -1);
        T.due("HOUSE 8", x.begin(0, 1, 8), -1);
        T.due("HOUSE -1", x.begin(0, 1, -1), -1);
        T.due("one HOUSE alone", x.begin(0, 3, 3), -1);
        T.due("LIVES", x.count(2), 0);
        T.due("PAYMENTS", x.count(3), 0);
        T.due("begin", x.begin(0, 0, 7), 0);
    }

    private static void immediate() {
        pays("nothing", 0);
        pays("one", 1);
        pays("give one", -1);
        pays("give give one", 1);
        pays("both(one,both(one,give one))", 1);
        pays("scale 5:one", 5);
        pays("scale 5:give scale 3:one", -15);
        pays("cap 5 scale 7:one", 5);
        pays("scale 7:cap 5 one", 5);
        pays("cap 5 give scale 7:one", -5);
        pays("cap 5 scale 3:one", 3);
        pays("cap 9 cap 4 scale 20:one", 4);
        pays("cap 4 cap 9 scale 20:one", 4);
        pays("cap 4 both(scale 9:one,scale 9:one)", 8);
        pays("cap 0 scale 9:one", 0);
        pays(Due.times(11, "give ") + "one", -1);
        pays(Due.times(10, "scale 2:") + "both(one,one)", 2048);
        // The FACTOR is held at each scale, the PAYMENT at its CAP alone.
        pays("scale 99999:scale 99999:one", 1000000);
        pays("scale 0-99999:scale 99999:one", -1000000);
        pays("scale 99999:scale 11:scale 0-1:one", -1000000);
        pays("scale 99999:scale 10:one", 999990);
        pays("scale 99999*99999*99999*99999:one", goneRound(99999L * 99999L * 99999L * 99999L));
        pays("scale 99999:scale 99999*99999*99999*92233:one", goneRound(99999L * (99999L * 99999L * 99999L * 92233L)));
        DeedTongue x = live("cap 0 scale 9:one");
        T.due("a PAYMENT of 0 is none", x.count(3), 0);
        DeedTongue y = live("scale s0:one");
        T.due("a PAYMENT of 0 is none", y.count(3), 0);
    }

    private static long goneRound(long product) {
        return Math.max(-1000000, Math.min(1000000, product));
    }

    private static void sums() {
        pays("scale 1+2*3:one", 7);
        pays("scale 2*3+1:one", 7);
        pays("scale 10-2-3:one", 5);
        pays("scale 10-2*3:one", 4);
        pays("scale 10-2*3-1+5*2*2:one", 23);
        pays("scale 1-2*3*4:one", -23);
        pays("scale 0-0*5:one", 0);
        DeedTongue x = new DeedTongue();
        x.see(0, 0, -7);
        x.see(5, 0, 30);
        x.day();
        x.see(5, 1, 31);
        Due.read(x, "scale s0*2+s5*day-s1:one");
        x.begin(0, 0, 1);
        T.due("THINGS and the day", x.got(0), -14 + 31);
    }

    private static void signs() {
        String[] signs = {"<", "<=", "=", ">=", ">"};
        boolean[][] due = {{true, false, false}, {true, true, false}, {false, true, false},
            {false, true, true}, {false, false, true}};
        for (int i = 0; i < signs.length; i++) {
            for (int right = 0; right < 3; right++) {
                String text = "when 1" + signs[i] + (2 - right) + ":one";
                DeedTongue x = live(text);
                T.due(text, x.got(0), due[i][right] ? 1 : 0);
                T.due("stands", x.stands(0), due[i][right] ? 0 : 1);
            }
        }
        pays("when 99999*99999*99999*99999<0:one", 99999L * 99999L * 99999L * 99999L < 0 ? 1 : 0);
    }

    private static void thenAndUntil() {
        DeedTongue x = new DeedTongue();
        Due.read(x, "then 2(one,scale 2:one)");
        Due.read(x, "until day>=2:one");
        Due.read(x, "until day<1:until day>2:one");
        int[][] due = {{1, 1, 0}, {1, 1, 1}, {2, 0, 1}, {2, 0, 0}};
        for (int day = 0; day < 4; day++) {
            for (int form = 0; form < 3; form++) {
                int life = x.begin(form, 0, 1);
                T.due("DAY " + day + " FORM " + form, x.got(life), due[day][form]);
            }
            x.day();
        }
    }

    private static void whens() {
        DeedTongue x = live("when s0>2:scale s0:one");
        T.due("stands", x.stands(0), 1);
        T.due("see", x.see(0, 0, 3), true);
        T.due("holds NOW", x.standing(0, 0, 6), 1);
        T.due("it waits for a DAY to begin", x.count(3), 0);
        T.due("it can't be chosen", x.choose(0, 0, 2, 0), -1);
        T.due("nor taken", x.take(0, 0, 2), -1);
        T.due("day", x.day(), 1);
        T.due("stands", x.stands(0), 0);
        T.due("DAY", x.payment(0, 1), 1);
        T.due("coins", x.payment(0, 2), 3);
        T.due("WORD", x.payment(0, 3), 2);
        T.due("day", x.day(), 0);
        DeedTongue y = live("when day>=3:one");
        T.due("day 1", y.day(), 0);
        T.due("day 2", y.day(), 0);
        T.due("day 3", y.day(), 1);
        T.due("DAY", y.payment(0, 1), 3);
        DeedTongue w = live(Due.times(10, "give ") + "when day=1:one");
        T.due("within 11", w.day(), 1);
        DeedTongue z = live("when day>0:when day>0:when day>1:one");
        T.due("stands", z.standing(0, 0, 0), 0);
        T.due("day", z.day(), 0);
        T.due("the third one waits", z.standing(0, 0, 0), 2);
        T.due("day", z.day(), 1);
    }

    private static void ors() {
        DeedTongue x = live("or(scale 2:one,scale 3:give one)");
        T.due("stands", x.stands(0), 1);
        T.due("not the CHOOSER's HOUSE", x.choose(0, 0, 5, 0), -1);
        T.due("no HOUSE of it", x.choose(0, 0, 0, 0), -1);
        T.due("another choice", x.choose(0, 0, 2, 2), -1);
        T.due("another choice", x.choose(0, 0, 2, -1), -1);
        T.due("no such or", x.choose(0, 1, 2, 0), -1);
        T.due("no such or", x.choose(0, -1, 2, 0), -1);
        T.due("no such LIFE", x.choose(1, 0, 2, 0), -1);
        T.due("no such LIFE", x.choose(-1, 0, 2, 0), -1);
        T.due("an or is not taken", x.take(0, 0, 2), -1);
        T.due("nothing happened", x.stands(0), 1);
        T.due("choose the second", x.choose(0, 0, 2, 1), 1);
        T.due("got", x.got(0), -3);
        T.due("stands", x.stands(0), 0);
        T.due("chosen already", x.choose(0, 0, 2, 1), -1);
        DeedTongue y = live("or(scale 2:one,scale 3:give one)");
        T.due("its first DEED by itself", y.day(), 1);
        T.due("got", y.got(0), 2);
        T.due("stands", y.stands(0), 0);
        DeedTongue z = live("give or(one,both(one,scale 2:one))");
        T.due("the first side may not", z.choose(0, 0, 2, 1), -1);
        T.due("the second side may", z.choose(0, 0, 5, 1), 2);
        T.due("got", z.got(0), -3);
        DeedTongue w = live("or(or(one,scale 2:one),nothing)");
        T.due("day", w.day(), 0);
        T.due("the inner or came that DAY", w.standing(0, 0, 0), 1);
        T.due("day", w.day(), 1);
        T.due("got", w.got(0), 1);
        DeedTongue v = live("or(or(one,scale 2:one),nothing)");
        T.due("choose", v.choose(0, 0, 2, 0), 0);
        T.due("choose the inner", v.choose(0, 0, 2, 1), 1);
        T.due("got", v.got(0), 2);
    }

    private static void anytimes() {
        DeedTongue x = live("anytime s0>4:scale s0-4:one");
        T.due("stands", x.stands(0), 1);
        T.due("its TEST does not hold", x.take(0, 0, 2), -1);
        x.see(0, 0, 6);
        T.due("not the CHOOSER's HOUSE", x.take(0, 0, 5), -1);
        T.due("no such", x.take(0, 1, 2), -1);
        T.due("no such", x.take(0, -1, 2), -1);
        T.due("no such LIFE", x.take(1, 0, 2), -1);
        T.due("an anytime is not chosen", x.choose(0, 0, 2, 0), -1);
        T.due("day does not take it", x.day(), 0);
        T.due("stands", x.stands(0), 1);
        x.see(0, 1, 9);
        T.due("take", x.take(0, 0, 2), 1);
        T.due("coins as of NOW", x.got(0), 5);
        T.due("stands", x.stands(0), 0);
        T.due("taken already", x.take(0, 0, 2), -1);
        DeedTongue y = live("anytime 1=1:one");
        T.due("it STANDS though its TEST holds", y.stands(0), 1);
        T.due("take", y.take(0, 0, 2), 1);
        DeedTongue z = live("give anytime 1=1:both(one,or(one,nothing))");
        T.due("the first side may not", z.take(0, 0, 2), -1);
        T.due("the second side may", z.take(0, 0, 5), 1);
        T.due("the or STANDS then", z.stands(0), 1);
        T.due("with the turned FACTOR", z.standing(0, 0, 3), -1);
        T.due("its CHOOSER", z.standing(0, 0, 2), 5);
        T.due("day", z.day(), 1);
        T.due("got", z.got(0), -2);
    }

    private static void order() {
        DeedTongue x = live("both(when day>1:one,both(or(when day>2:scale 2:one,nothing),both(anytime 1=1:one,"
                + "when day>0:or(scale 3:one,one))))");
        int[] first = {1, 4, 10, 12};
        T.due("stands", x.stands(0), 4);
        for (int k = 0; k < 4; k++) {
            T.due("WORD of the " + k + "-th", x.standing(0, k, 0), first[k]);
        }
        T.due("day 1", x.day(), 0);
        int[] second = {1, 10, 5, 13};
        T.due("stands", x.stands(0), 4);
        for (int k = 0; k < 4; k++) {
            T.due("WORD of the " + k + "-th", x.standing(0, k, 0), second[k]);
        }
        T.due("day 2", x.day(), 2);
        T.due("first paid", x.payment(0, 3), 2);
        T.due("then paid", x.payment(1, 3), 15);
        T.due("stands", x.stands(0), 2);
        T.due("the anytime", x.standing(0, 0, 0), 10);
        T.due("the when", x.standing(0, 1, 0), 5);
        T.due("take moves the rest up", x.take(0, 0, 2), 1);
        T.due("the when", x.standing(0, 0, 0), 5);
        T.due("day 3", x.day(), 1);
        T.due("got", x.got(0), 1 + 3 + 1 + 2);
        // LIVES by numbers, whatever came first in them.
        DeedTongue y = live("when day>0:one");
        y.begin(0, 3, 4);
        T.due("day", y.day(), 2);
        T.due("LIFE", y.payment(0, 0), 0);
        T.due("LIFE", y.payment(1, 0), 1);
    }

    private static void standingFields() {
        DeedTongue x = live("until day>9:cap 8 scale 2:give both(until s0>5:cap 9 when s0=1:one,"
                + "both(anytime s0=1:one,give or(one,one)))");
        int[][] due = {{7, 6, 5, -2, 8, 2, 0}, {10, 7, 5, -2, 8, 1, 0}, {13, 4, 2, 2, 8, 1, 1}};
        T.due("stands", x.stands(0), 3);
        for (int k = 0; k < 3; k++) {
            for (int what = 0; what < 7; what++) {
                T.due("standing(0, " + k + ", " + what + ")", x.standing(0, k, what), due[k][what]);
            }
        }
        x.see(0, 0, 1);
        T.due("the when's TEST holds NOW", x.standing(0, 0, 6), 1);
        T.due("the anytime's TEST holds NOW", x.standing(0, 1, 6), 1);
        T.due("what 7", x.standing(0, 0, 7), -1);
        T.due("what -1", x.standing(0, 0, -1), -1);
        T.due("k 3", x.standing(0, 3, 0), -1);
        T.due("k -1", x.standing(0, -1, 0), -1);
        T.due("LIFE 1", x.standing(1, 0, 0), -1);
        T.due("LIFE -1", x.standing(-1, 0, 0), -1);
        T.due("stands(1)", x.stands(1), -1);
        T.due("stands(-1)", x.stands(-1), -1);
        T.due("stands(40)", x.stands(40), -1);
        DeedTongue y = live("give anytime 1=1:one");
        T.due("a FACTOR of -1", y.standing(0, 0, 3), -1);
        T.due("no CAP", y.standing(0, 0, 4), -1);
        T.due("no UNTILS", y.standing(0, 0, 5), 0);
    }

    private static void lapses() {
        DeedTongue x = live("until s0>0:both(or(one,one),both(anytime 1=1:one,when day>0:one))");
        T.due("stands", x.stands(0), 3);
        x.see(0, 0, 1);
        T.due("still STANDS on the DAY", x.stands(0), 3);
        T.due("an UNTIL of it holds NOW", x.choose(0, 0, 2, 0), -1);
        T.due("an UNTIL of it holds NOW", x.take(0, 1, 2), -1);
        x.see(0, 0, 0);
        T.due("it holds no longer", x.take(0, 1, 2), 1);
        x.see(0, 0, 1);
        T.due("day", x.day(), 0);
        T.due("LAPSED", x.stands(0), 0);
        T.due("nothing is LOST", x.count(7), 0);
        // What lapsed does not come back as the TEST holds no longer.
        DeedTongue y = live("until day=1:when day=2:one");
        T.due("day 1", y.day(), 0);
        T.due("stands", y.stands(0), 0);
        T.due("day 2", y.day(), 0);
        T.due("got", y.got(0), 0);
        // An until is not itself under its TEST, and one around it is.
        DeedTongue z = live("both(until 1=1:or(one,one),until 1=2:until 1=1:anytime 1=1:one)");
        T.due("LAPSED at once", z.stands(0), 0);
        // An UNTIL that came later into the DEED is looked at as it is ACQUIRED.
        DeedTongue w = live("or(until day>0:one,one)");
        T.due("day", w.day(), 0);
        T.due("got", w.got(0), 0);
    }

    private static void payments() {
        DeedTongue x = live("scale 5:one");
        T.due("payment(0, 4)", x.payment(0, 4), -10000000);
        T.due("payment(0, 5)", x.payment(0, 5), -10000000);
        T.due("payment(0, -1)", x.payment(0, -1), -10000000);
        T.due("payment(1, 0)", x.payment(1, 0), -10000000);
        T.due("payment(-1, 0)", x.payment(-1, 0), -10000000);
        T.due("payment(2000, 0)", x.payment(2000, 0), -10000000);
        T.due("payment(greatest, 0)", x.payment(Integer.MAX_VALUE, 0), -10000000);
        T.due("got(1)", x.got(1), 0);
        T.due("got(-1)", x.got(-1), 0);
        T.due("got(40)", x.got(40), 0);
    }

    private static void manyLives() {
        DeedTongue x = new DeedTongue();
        Due.read(x, "both(" + Due.times(8, "both(one,") + "one" + Due.times(8, ")") + ",when day=3:scale 99999:scale 20:one)");
        for (int i = 0; i < 40; i++) {
            T.due("begin", x.begin(0, i % 8, (i + 1) % 8), i);
        }
        T.due("there are 40", x.begin(0, 0, 1), -1);
        T.due("LIVES", x.count(2), 40);
        T.due("PAYMENTS", x.count(3), 360);
        x.day();
        x.day();
        T.due("day 3", x.day(), 40);
        T.due("PAYMENTS", x.count(3), 400);
        for (int i = 0; i < 40; i++) {
            T.due("got", x.got(i), 1000009);
            T.due("LIFE of its last", x.payment(360 + i, 0), i);
            T.due("DAY of its last", x.payment(360 + i, 1), 3);
        }
        T.due("LOST", x.count(7), 0);
    }
}
