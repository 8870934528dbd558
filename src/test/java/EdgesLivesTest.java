/** The edges of parts III and IV and of promises 13 to 20: what is ACQUIRED, what STANDS, and what is paid. */
public final class EdgesLivesTest {
    private static final Due T = new Due("EdgesLivesTest");
    // 2 to the 64th, which goes round to 0, and to the 63rd, which goes round to the least number.
    private static final String ROUND = "65536*65536*65536*65536";
    private static final String LEAST = "65536*65536*65536*32768";

    public static void main(String[] args) {
        untils();
        payments();
        caps();
        lesserCaps();
        factorsHeld();
        factorsGoRound();
        sumsGoRound();
        starAhead();
        thens();
        whens();
        anytimes();
        lapses();
        beginnings();
        fortyLives();
        houses();
        order();
        notLookedAt();
        orsOfADay();
        mostThatStand();
        standings();
        choosing();
        taking();
        paymentsByDays();
        allPayments();
        gotten();
        T.finish();
    }

    private static DeedTongue live(String text) {
        DeedTongue x = new DeedTongue();
        T.due("form of '" + text + "'", Due.read(x, text), 0);
        T.due("begin '" + text + "'", x.begin(0, 2, 5), 0);
        return x;
    }

    /** A text that pays so much at once, by one PAYMENT or by none. */
    private static void pays(String text, long coins) {
        DeedTongue x = live(text);
        T.due("got of '" + text + "'", x.got(0), coins);
        T.due("PAYMENTS of '" + text + "'", x.count(3), coins == 0 ? 0 : 1);
        T.due("coins of '" + text + "'", x.payment(0, 2), coins == 0 ? -10000000 : coins);
        T.due("stands", x.stands(0), 0);
    }

    private static void days(DeedTongue x, int n) {
        for (int i = 0; i < n; i++) {
            x.day();
        }
    }

    private static void untils() {
        T.says("Does one of the UNTILS hold on t, it is LAPSED: nothing happens.");
        pays("until 1=2:one", 1);
        pays("until 1=1:one", 0);
        pays("until 1=1:until 1=2:until 1=2:one", 0);
        pays("until 1=2:until 1=1:until 1=2:one", 0);
        pays("until 1=2:until 1=2:until 1=1:one", 0);
        pays("until 1=2:until 1=2:until 1=2:one", 1);
        pays("until 1=1:or(one,one)", 0);
        pays("until 1=1:anytime 1=1:one", 0);
        pays("until 1=1:when 1=2:one", 0);
        pays("until 1=1:when 1=1:one", 0);
        pays("until 1=1:nothing", 0);
        // A TEST of one DEED of a both is none of the other.
        pays("both(until 1=1:one,give one)", -1);
        pays("both(give one,until 1=1:one)", -1);
        pays(Due.times(11, "until day>0:") + "one", 1);
        pays(Due.times(10, "until day>0:") + "until day=0:one", 0);
    }

    private static void payments() {
        T.says("one: a PAYMENT to the first side of the FACTOR, held to its CAP (-CAP to CAP), if that is not 0.");
        pays("one", 1);
        pays("give one", -1);
        pays("scale 0:one", 0);
        pays("scale s0:one", 0);
        pays("give scale 0:one", 0);
        pays("scale 1:one", 1);
        pays("scale 0-1:one", -1);
        pays("cap 0 one", 0);
        pays("cap 0 give one", 0);
        pays("cap 0 scale 1000*1000:one", 0);
        pays("nothing", 0);
        pays("scale 5:nothing", 0);
        // As deep as a WORD may be, by either DEED of a pair.
        pays(Due.times(11, "give ") + "one", -1);
        pays(Due.times(11, "both(") + "one" + Due.times(11, ",nothing)"), 1);
        pays(Due.times(11, "both(nothing,") + "one" + Due.times(11, ")"), 1);
        pays(Due.times(11, "then 0(nothing,") + "one" + Due.times(11, ")"), 1);
    }

    private static void caps() {
        T.says("held to its CAP (-CAP to CAP)");
        int[] factors = {6, 7, 8};
        for (int f : factors) {
            pays("cap 7 scale " + f + ":one", Math.min(f, 7));
            pays("scale " + f + ":cap 7 one", Math.min(f, 7));
            pays("cap 7 scale 0-" + f + ":one", -Math.min(f, 7));
            pays("cap 7 give scale " + f + ":one", -Math.min(f, 7));
            pays("give scale " + f + ":cap 7 one", -Math.min(f, 7));
        }
        pays("cap 1 scale 2:one", 1);
        pays("cap 1 scale 2:give one", -1);
        pays("cap 99999 scale 99999+1:one", 99999);
        pays("cap 99999 scale 99999:one", 99999);
        pays("cap 99999 scale 99998:one", 99998);
        pays("cap 99999 give scale 99999+1:one", -99999);
        // The FACTOR itself is not held to the CAP, so that a scale to come works on the whole of it.
        pays("cap 7 scale 70:scale 0-1:one", -7);
        pays("cap 7 scale 70:scale 0:one", 0);
    }

    private static void lesserCaps() {
        T.says("cap: its DEED with the lesser of its CAP and N (without CAP N).");
        pays("cap 3 cap 4 scale 9:one", 3);
        pays("cap 4 cap 3 scale 9:one", 3);
        pays("cap 3 cap 3 scale 9:one", 3);
        pays("cap 0 cap 3 scale 9:one", 0);
        pays("cap 3 cap 0 scale 9:one", 0);
        pays("cap 3 give cap 4 scale 9:one", -3);
        pays("cap 5 cap 4 cap 3 cap 4 cap 5 scale 9:one", 3);
        DeedTongue x = live("both(or(one,one),cap 0 both(or(one,one),cap 99999 or(one,one)))");
        T.due("no CAP", x.standing(0, 0, 4), -1);
        T.due("a CAP of 0", x.standing(0, 1, 4), 0);
        T.due("the lesser of 0 and 99999", x.standing(0, 2, 4), 0);
        DeedTongue y = live("cap 99999 or(one,one)");
        T.due("a CAP of 99999", y.standing(0, 0, 4), 99999);
    }

    private static void factorsHeld() {
        T.says("held to -1000000 to 1000000");
        pays("scale 1000*1000-1:one", 999999);
        pays("scale 1000*1000:one", 1000000);
        pays("scale 1000*1000+1:one", 1000000);
        pays("scale 0-1000*1000+1:one", -999999);
        pays("scale 0-1000*1000:one", -1000000);
        pays("scale 0-1000*1000-1:one", -1000000);
        pays("give scale 1000*1000+1:one", -1000000);
        pays("give scale 0-1000*1000-1:one", 1000000);
        pays("scale 99999:scale 10:one", 999990);
        pays("scale 99999:scale 11:one", 1000000);
        pays("scale 99999:give scale 11:one", -1000000);
        // It is held at each scale, so that a lesser one behind it starts from the bound.
        pays("scale 1000*1000+1:scale 0-1:one", -1000000);
        pays("scale 99999*99999:scale 0:one", 0);
        pays(Due.times(10, "scale 99999:") + "one", 1000000);
        pays(Due.times(10, "scale 0-99999:") + "one", 1000000);
        pays(Due.times(11, "scale 0-99999:") + "one", -1000000);
        DeedTongue x = live("scale 1000*1000+1:both(or(one,one),give or(one,one))");
        T.due("a FACTOR of 1000000", x.standing(0, 0, 3), 1000000);
        T.due("a FACTOR of -1000000", x.standing(0, 1, 3), -1000000);
    }

    private static void factorsGoRound() {
        T.says("scale: its DEED with the FACTOR times SUM on t (64 bits, going round)");
        // 5 times this is 1 behind 2 to the 64th four times over.
        String fifth = "52428*65536*65536*65536+52428*65536*65536+52428*65536+52429";
        pays("scale 5:scale " + fifth + ":one", 1);
        pays("scale 10:scale " + fifth + ":one", 2);
        pays("give scale 5:scale " + fifth + ":one", -1);
        pays("scale " + fifth + ":one", -1000000);
        pays("scale 2:scale " + LEAST + ":one", 0);
        pays("scale 3:scale " + LEAST + ":one", -1000000);
        pays("scale 1:scale " + LEAST + ":one", -1000000);
        // The least number turned is the least number.
        pays("give scale " + LEAST + ":one", -1000000);
        pays("give scale " + LEAST + "-1:one", -1000000);
        pays("give scale " + LEAST + "+1:one", 1000000);
    }

    private static void sumsGoRound() {
        T.says("(Sums are whole numbers of 64 bits that go round.)");
        pays("scale " + ROUND + ":one", 0);
        pays("scale " + ROUND + "+1:one", 1);
        pays("scale 7-" + ROUND + ":one", 7);
        pays("scale " + LEAST + ":one", -1000000);
        pays("scale 0-" + LEAST + ":one", -1000000);
        pays("scale " + LEAST + "-1:one", 1000000);
        pays("scale " + LEAST + "+" + LEAST + "+3:one", 3);
        pays("scale " + LEAST + "-" + LEAST + "+3:one", 3);
        pays("when " + LEAST + "<0:one", 1);
        pays("when " + LEAST + "-1>0:one", 1);
        pays("when 0>" + LEAST + ":one", 1);
        pays("when " + ROUND + "=0:one", 1);
        pays("when 0-" + LEAST + "=" + LEAST + ":one", 1);
        // The least and the greatest number are compared, not taken from one another.
        pays("when " + LEAST + "<" + LEAST + "-1:one", 1);
        pays("when " + LEAST + "-1>=" + LEAST + ":one", 1);
        pays("until " + LEAST + ">0:one", 1);
        pays("until " + LEAST + "<0:one", 0);
    }

    private static void starAhead() {
        T.says("gone through from the left, * ahead of + and -");
        pays("scale 2+3*4:one", 14);
        pays("scale 2*3+4:one", 10);
        pays("scale 20-3*4:one", 8);
        pays("scale 20-3-4:one", 13);
        pays("scale 20-3+4:one", 21);
        pays("scale 2*3*4:one", 24);
        pays("scale 1-2*3-4*5+6:one", -19);
        pays("scale 0*5+1:one", 1);
        pays("scale 1+5*0:one", 1);
    }

    private static void thens() {
        T.says("then: the first DEED, if t is below N, else the second.");
        pays("then 0(one,give one)", -1);
        pays("then 1(one,give one)", 1);
        pays("then 99999(one,give one)", 1);
        DeedTongue x = new DeedTongue();
        Due.read(x, "then 2(one,give one)");
        Due.read(x, "then 399(one,give one)");
        Due.read(x, "then 400(one,give one)");
        Due.read(x, "then 398(one,give one)");
        int[] due = {1, 1, -1, -1};
        for (int day = 0; day < due.length; day++) {
            T.due("then 2 on DAY " + day, x.got(x.begin(0, 0, 1)), due[day]);
            x.day();
        }
        days(x, 394);
        T.due("NOW", x.count(0), 398);
        T.due("398 is below 399", x.got(x.begin(1, 0, 1)), 1);
        T.due("398 is not below 398", x.got(x.begin(3, 0, 1)), -1);
        x.day();
        T.due("399 is not below 399", x.got(x.begin(1, 0, 1)), -1);
        T.due("399 is below 400", x.got(x.begin(2, 0, 1)), 1);
        // It is the DAY on which the then is ACQUIRED.
        DeedTongue y = live("when day=2:then 2(one,give one)");
        days(y, 2);
        T.due("ACQUIRED on DAY 2", y.got(0), -1);
        DeedTongue z = live("then 2(when day=2:one,give one)");
        days(z, 2);
        T.due("ACQUIRED on DAY 0", z.got(0), 1);
    }

    private static void whens() {
        T.says("when: its DEED, if its TEST holds on t; else on the first later DAY on which it does.");
        for (int first = 0; first < 4; first++) {
            DeedTongue x = live("when day>=" + first + ":one");
            for (int day = 0; day < 4; day++) {
                T.due("paid by DAY " + day + " of " + first, x.got(0), day >= first ? 1 : 0);
                T.due("stands", x.stands(0), day >= first ? 0 : 1);
                x.day();
            }
        }
        DeedTongue y = live("when day=399:one");
        days(y, 398);
        T.due("on DAY 398", y.got(0), 0);
        T.due("day", y.day(), 1);
        T.due("on DAY 399", y.got(0), 1);
        DeedTongue z = live("when day>399:one");
        days(z, 399);
        T.due("never", z.got(0), 0);
        T.due("it STANDS still", z.stands(0), 1);
        // A TEST that held on a DAY gone by is of no use.
        DeedTongue w = live("when day=0:one");
        T.due("at once", w.got(0), 1);
        w.day();
        T.due("a DAY late", w.got(w.begin(0, 2, 5)), 0);
        T.due("stands", w.stands(1), 1);
    }

    private static void anytimes() {
        T.says("anytime: its DEED on one DAY, t or later, on which its TEST holds, by the CHOOSER's choice, or never.");
        DeedTongue x = live("anytime day=1:one");
        T.due("on DAY 0", x.take(0, 0, 2), -1);
        T.due("day", x.day(), 0);
        T.due("it is not taken by itself", x.stands(0), 1);
        T.due("on DAY 1", x.take(0, 0, 2), 1);
        T.due("on one DAY alone", x.take(0, 0, 2), -1);
        DeedTongue y = live("anytime day=1:one");
        days(y, 2);
        T.due("on DAY 2", y.take(0, 0, 2), -1);
        days(y, 397);
        T.due("never", y.stands(0), 1);
        DeedTongue z = live("anytime 1=1:one");
        T.due("on t itself", z.take(0, 0, 2), 1);
        DeedTongue w = live("anytime day>=399:one");
        days(w, 398);
        T.due("on DAY 398", w.take(0, 0, 2), -1);
        w.day();
        T.due("on DAY 399", w.take(0, 0, 2), 1);
    }

    private static void lapses() {
        T.says("What is not ACQUIRED yet LAPSES on the first DAY on which one of its UNTILS holds.");
        for (String text : new String[] {"until day>=2:when day>=2:one", "until day>=2:anytime 1=1:one",
            "until day=2:until day>9:when day>=2:one", "until day>9:until day=2:anytime 1=1:one"}) {
            DeedTongue x = live(text);
            x.day();
            T.due("stands on DAY 1", x.stands(0), 1);
            T.due("day", x.day(), 0);
            T.due("LAPSED on DAY 2", x.stands(0), 0);
            x.day();
            T.due("and stays so", x.stands(0), 0);
            T.due("got", x.got(0), 0);
        }
        DeedTongue y = live("until day>=2:when day>=1:one");
        T.due("the DAY before", y.day(), 1);
        T.says("LAPSED by an UNTIL it goes");
        DeedTongue z = live("until day>=1:or(one,one)");
        T.due("an or, too", z.day(), 0);
        T.due("stands", z.stands(0), 0);
        // An UNTIL that is told of only within the DEED is looked at as that is ACQUIRED.
        DeedTongue w = live("when day=1:until day=0:one");
        T.due("it held on DAY 0", w.day(), 1);
        DeedTongue v = live("when day=1:until day=1:one");
        T.due("it holds on DAY 1", v.day(), 0);
        T.due("stands", v.stands(0), 0);
        // What is told behind the begin of a DAY is of use as the next one begins.
        DeedTongue u = live("until s0>0:when day>0:one");
        u.see(0, 0, 1);
        T.due("it STANDS yet", u.stands(0), 1);
        u.see(0, 0, 0);
        T.due("it did not hold as the DAY began", u.day(), 1);
    }

    private static void beginnings() {
        T.says("its WORD 0 is ACQUIRED with FACTOR 1, no CAP, CHOOSER the first side");
        DeedTongue x = live("or(one,one)");
        int[] due = {0, 4, 2, 1, -1, 0, 1};
        for (int what = 0; what < due.length; what++) {
            T.due("standing(0, 0, " + what + ")", x.standing(0, 0, what), due[what]);
        }
        days(x, 7);
        T.due("begun NOW", x.begin(0, 5, 2), 1);
        T.due("the first side", x.standing(1, 0, 2), 5);
        T.due("chosen NOW", x.choose(1, 0, 5, 0), 1);
        T.due("on DAY 7", x.payment(1, 1), 7);
        DeedTongue y = live("nothing");
        T.due("a LIFE of nothing", y.count(2), 1);
        T.due("stands", y.stands(0), 0);
        T.due("got", y.got(0), 0);
    }

    private static void fortyLives() {
        T.says("LIVES 0 to 39");
        DeedTongue x = new DeedTongue();
        Due.read(x, "both(one,or(give one,give one))");
        for (int life = 0; life < 40; life++) {
            T.due("stands ahead of it", x.stands(life), -1);
            T.due("begin", x.begin(0, life % 8, (life + 3) % 8), life);
            T.due("stands", x.stands(life), 1);
        }
        T.says("NONE: there are 40");
        T.due("begin", x.begin(0, 0, 1), -1);
        T.due("begin again", x.begin(0, 0, 1), -1);
        T.due("LIVES", x.count(2), 40);
        T.due("PAYMENTS", x.count(3), 40);
        T.due("stands(39)", x.stands(39), 1);
        T.due("stands(40)", x.stands(40), -1);
        T.due("stands(-1)", x.stands(-1), -1);
        T.due("got(39)", x.got(39), 1);
        T.due("got(40)", x.got(40), 0);
        T.due("choose of LIFE 39", x.choose(39, 0, 7, 1), 1);
        T.due("choose of LIFE 40", x.choose(40, 0, 0, 1), -1);
        T.due("day", x.day(), 39);
    }

    private static void houses() {
        T.says("HOUSES 0 to 7");
        DeedTongue x = new DeedTongue();
        Due.read(x, "both(or(one,one),give or(one,one))");
        int[] wrong = {-1, 8, Integer.MIN_VALUE, Integer.MAX_VALUE};
        for (int house : wrong) {
            T.due("first side " + house, x.begin(0, house, 3), -1);
            T.due("second side " + house, x.begin(0, 3, house), -1);
            T.due("both sides " + house, x.begin(0, house, house), -1);
        }
        T.due("LIVES", x.count(2), 0);
        for (int house = 0; house < 8; house++) {
            T.says("something is not as told (two HOUSES)");
            T.due("one HOUSE alone", x.begin(0, house, house), -1);
            int life = x.begin(0, house, 7 - house);
            T.due("two HOUSES", life, house);
            T.due("the first side", x.standing(life, 0, 2), house);
            T.due("the second side", x.standing(life, 1, 2), 7 - house);
        }
    }

    private static void words(DeedTongue x, int... due) {
        T.due("stands", x.stands(0), due.length);
        for (int k = 0; k < due.length; k++) {
            T.due("WORD of the " + k + "-th", x.standing(0, k, 0), due[k]);
        }
        T.due("none ahead of the first", x.standing(0, -1, 0), -1);
        T.due("none behind the last", x.standing(0, due.length, 0), -1);
    }

    private static void order() {
        T.says("What waits STANDS, in the order in which it came");
        // WORDS 1 and 9 are ors, 5 and 12 whens, 8 is an anytime.
        DeedTongue x = live("both(or(one,both(one,when day=9:one)),both(anytime 1=1:or(one,one),when day=8:one))");
        words(x, 1, 8, 12);
        T.due("choose the first of three", x.choose(0, 0, 2, 1), 1);
        words(x, 8, 12, 5);
        T.due("take the first", x.take(0, 0, 2), 0);
        words(x, 12, 5, 9);
        T.due("choose the last", x.choose(0, 2, 2, 0), 1);
        words(x, 12, 5);
        days(x, 7);
        words(x, 12, 5);
        x.day();
        words(x, 5);
        x.day();
        words(x);
    }

    private static void notLookedAt() {
        T.says("what comes to STAND by that comes behind all, and is not looked at on that DAY");
        // or 1 of or 2 of or 3: each waits a DAY more.
        DeedTongue x = live("both(or(or(or(one,nothing),nothing),nothing),when day=2:one)");
        words(x, 1, 8);
        T.due("day 1", x.day(), 0);
        words(x, 8, 2);
        T.due("day 2", x.day(), 1);
        words(x, 3);
        T.due("day 3", x.day(), 1);
        words(x);
        // A when whose TEST holds does not come to STAND, and so goes on the same DAY.
        DeedTongue y = live("when day=1:when day=1:when day=1:one");
        T.due("day", y.day(), 1);
        // An or of a DAY that begins is not chosen by that DAY, though its UNTIL would let it LAPSE on the next.
        DeedTongue z = live("when day=1:until day=2:or(one,one)");
        T.due("day 1", z.day(), 0);
        words(z, 2);
        T.due("day 2", z.day(), 0);
        words(z);
    }

    private static void orsOfADay() {
        T.says("an or: its first DEED is ACQUIRED; a when, if its TEST holds: its DEED is");
        DeedTongue x = live("both(or(scale 2:one,one),both(when day=1:scale 3:one,both(when day=2:scale 5:one,anytime 1=1:one)))");
        T.due("day 1", x.day(), 2);
        T.due("got", x.got(0), 5);
        T.due("stands", x.stands(0), 2);
        T.due("day 2", x.day(), 1);
        T.due("got", x.got(0), 10);
        T.due("the anytime STANDS", x.standing(0, 0, 1), 7);
        T.says("As a DAY begins, LIVES by numbers, of each what STOOD in order");
        DeedTongue y = new DeedTongue();
        Due.read(y, "both(when day=1:one,when day=1:give one)");
        for (int life = 0; life < 3; life++) {
            y.begin(0, life, 7);
        }
        T.due("day", y.day(), 6);
        for (int k = 0; k < 6; k++) {
            T.due("LIFE of PAYMENT " + k, y.payment(k, 0), k / 2);
            T.due("coins of PAYMENT " + k, y.payment(k, 2), k % 2 == 0 ? 1 : -1);
        }
    }

    /** As a FORM has 40 WORDS, no more than 13 of them can STAND; LostTest has the 40 that the document names. */
    private static void mostThatStand() {
        T.says("How many STAND in a LIFE; NONE without it.");
        DeedTongue x = live(Due.bush(13, "anytime day=1:one"));
        T.due("stands", x.stands(0), 13);
        T.due("the last", x.standing(0, 12, 1), 7);
        T.due("none behind it", x.standing(0, 13, 1), -1);
        T.due("its TEST does not hold", x.take(0, 12, 2), -1);
        x.day();
        T.due("take the 13th", x.take(0, 13, 2), -1);
        for (int left = 12; left >= 0; left--) {
            T.due("take the last", x.take(0, left, 2), 1);
            T.due("stands", x.stands(0), left);
        }
        T.due("stands(1)", x.stands(1), -1);
        T.due("stands(-1)", x.stands(-1), -1);
        DeedTongue y = live(Due.bush(13, "when day=1:one"));
        T.due("stands", y.stands(0), 13);
        T.due("all on one DAY", y.day(), 13);
        T.due("stands", y.stands(0), 0);
    }

    private static void standings() {
        T.says("0: its WORD, 1: its kind (4 or, 6 when, 7 anytime), 2: the CHOOSER's HOUSE, 3: FACTOR, 4: CAP (NONE: none), "
                + "5: UNTILS, 6: 1 if its TEST holds NOW (or: 1).");
        DeedTongue x = live("both(when s0>0:one,give scale 7:cap 3 until s1>0:until s2>0:both(or(one,one),anytime s0>0:one))");
        int[][] due = {{1, 6, 2, 1, -1, 0, 0}, {9, 4, 5, -7, 3, 2, 1}, {12, 7, 5, -7, 3, 2, 0}};
        for (int k = 0; k < due.length; k++) {
            for (int what = 0; what < 7; what++) {
                T.due("standing(0, " + k + ", " + what + ")", x.standing(0, k, what), due[k][what]);
            }
            T.due("what -1", x.standing(0, k, -1), -1);
            T.due("what 7", x.standing(0, k, 7), -1);
        }
        T.due("k 3", x.standing(0, 3, 1), -1);
        T.due("k -1", x.standing(0, -1, 1), -1);
        T.due("LIFE 1", x.standing(1, 0, 1), -1);
        T.due("LIFE -1", x.standing(-1, 0, 1), -1);
        x.see(0, 0, 1);
        T.due("the when's TEST holds NOW", x.standing(0, 0, 6), 1);
        T.due("the anytime's TEST holds NOW", x.standing(0, 2, 6), 1);
        x.see(0, 0, 0);
        T.due("and no longer", x.standing(0, 2, 6), 0);
        T.says("(A FACTOR may be -1.)");
        DeedTongue y = live("both(give or(one,one),scale 0:or(one,one))");
        T.due("a FACTOR of -1", y.standing(0, 0, 3), -1);
        T.due("a FACTOR of 0", y.standing(0, 1, 3), 0);
        DeedTongue z = live(Due.times(10, "until s0>0:") + "or(one,one)");
        T.due("10 UNTILS", z.standing(0, 0, 5), 10);
        DeedTongue w = live("until s0>0:or(one,one)");
        T.due("one UNTIL", w.standing(0, 0, 5), 1);
    }

    private static void choosing() {
        T.says("The HOUSE chooses of the k-th that STANDS, an or, its first DEED (0) or second (1): how many PAYMENTS there were by it");
        String text = "both(or(nothing,both(one,both(one,one))),give or(scale 0:one,one))";
        DeedTongue x = live(text);
        T.due("choice -1", x.choose(0, 0, 2, -1), -1);
        T.due("choice 2", x.choose(0, 0, 2, 2), -1);
        T.due("none is paid by the first", x.choose(0, 0, 2, 0), 0);
        T.due("stands", x.stands(0), 1);
        T.due("a PAYMENT of 0 is none", x.choose(0, 0, 5, 0), 0);
        DeedTongue y = live(text);
        T.due("three by the second", y.choose(0, 0, 2, 1), 3);
        T.due("one by the second", y.choose(0, 0, 5, 1), 1);
        T.due("got", y.got(0), 2);
        T.says("not the CHOOSER's HOUSE, an UNTIL of it holds NOW, or another choice");
        for (int house = -1; house <= 8; house++) {
            DeedTongue z = live(text);
            T.due("the first side's, by " + house, z.choose(0, 0, house, 1), house == 2 ? 3 : -1);
            DeedTongue w = live(text);
            T.due("the second side's, by " + house, w.choose(0, 1, house, 1), house == 5 ? 1 : -1);
        }
        DeedTongue v = live("until s0=1:until s0=2:or(one,one)");
        int[] due = {-1, -1, 1};
        for (int s = 1; s <= 3; s++) {
            v.see(0, 0, s);
            T.due("s0 is " + s, v.choose(0, 0, 2, 0), due[s - 1]);
        }
    }

    private static void taking() {
        T.says("The HOUSE takes the k-th that STANDS, an anytime: how many PAYMENTS there were by it");
        String text = "both(anytime s0>=3:both(one,one),give anytime s0<=3:scale 0:one)";
        int[][] due = {{2, -1, 0}, {3, 2, 0}, {4, 2, -1}};
        for (int[] row : due) {
            DeedTongue y = live(text);
            y.see(0, 0, row[0]);
            T.due("the second, s0 is " + row[0], y.take(0, 1, 5), row[2]);
            T.due("the first, s0 is " + row[0], y.take(0, 0, 2), row[1]);
        }
        for (int house = -1; house <= 8; house++) {
            DeedTongue z = live(text);
            z.see(0, 0, 3);
            T.due("the first side's, by " + house, z.take(0, 0, house), house == 2 ? 2 : -1);
            DeedTongue w = live(text);
            w.see(0, 0, 3);
            T.due("the second side's, by " + house, w.take(0, 1, house), house == 5 ? 0 : -1);
        }
        T.says("its TEST does not hold NOW, or an UNTIL does");
        DeedTongue v = live("until s0>5:anytime s0>3:one");
        int[] told = {3, 6, 5};
        for (int s : told) {
            v.see(0, 0, s);
            T.due("s0 is " + s, v.take(0, 0, 2), s == 5 ? 1 : -1);
        }
    }

    private static void paymentsByDays() {
        T.says("The next DAY begins: how many PAYMENTS there were by it");
        DeedTongue x = live("both(when day=1:scale 0:one,both(when day=2:one,both(when day=3:both(one,one),one)))");
        T.due("begin's PAYMENT", x.count(3), 1);
        int[] due = {0, 1, 2, 0};
        for (int n : due) {
            T.due("day", x.day(), n);
        }
        T.says("Of PAYMENT k what 0: the LIFE, 1: the DAY, 2: the coins, 3: the WORD; -10000000 without it, or for another what.");
        int[][] paid = {{0, 0, 1, 12}, {0, 2, 1, 6}, {0, 3, 1, 10}, {0, 3, 1, 11}};
        T.due("PAYMENTS", x.count(3), paid.length);
        for (int k = 0; k < paid.length; k++) {
            T.due("LIFE", x.payment(k, 0), paid[k][0]);
            T.due("DAY", x.payment(k, 1), paid[k][1]);
            T.due("coins", x.payment(k, 2), paid[k][2]);
            T.due("WORD", x.payment(k, 3), paid[k][3]);
            T.due("what -1", x.payment(k, -1), -10000000);
            T.due("what 4", x.payment(k, 4), -10000000);
        }
        for (int what = 0; what < 4; what++) {
            T.due("PAYMENT -1", x.payment(-1, what), -10000000);
            T.due("PAYMENT 4", x.payment(4, what), -10000000);
        }
    }

    /** 40 LIVES of 20 ones are all that can be paid; LostTest has the 2000 that the document names. */
    private static void allPayments() {
        T.says("PAYMENTS 0 to 1999 (more are LOST)");
        DeedTongue x = new DeedTongue();
        Due.read(x, "when day=399:" + Due.bush(20, "one"));
        for (int life = 0; life < 40; life++) {
            x.begin(0, life % 7, 7);
        }
        days(x, 398);
        T.due("PAYMENTS", x.count(3), 0);
        T.due("all of them by one DAY", x.day(), 800);
        T.due("PAYMENTS", x.count(3), 800);
        T.due("LOST", x.count(7), 0);
        int[] some = {0, 19, 20, 399, 400, 779, 780, 799};
        for (int k : some) {
            T.due("LIFE of PAYMENT " + k, x.payment(k, 0), k / 20);
            T.due("DAY of PAYMENT " + k, x.payment(k, 1), 399);
            T.due("coins of PAYMENT " + k, x.payment(k, 2), 1);
        }
        T.due("PAYMENT 800", x.payment(800, 0), -10000000);
        T.due("net", x.net(399), 7);
        T.due("what HOUSE 7 gives", x.netted(0, 17), -800);
        T.due("got(39)", x.got(39), 20);
    }

    private static void gotten() {
        T.says("All coins to the first side of a LIFE so far; 0 without it.");
        DeedTongue x = live("both(scale 1000*1000:both(one,both(one,one)),when day=1:scale 1000*1000:give both(one,one))");
        T.due("got", x.got(0), 3000000);
        x.day();
        T.due("got", x.got(0), 1000000);
        T.due("got(1)", x.got(1), 0);
        T.due("got(-1)", x.got(-1), 0);
        T.due("got(40)", x.got(40), 0);
        DeedTongue y = live("scale 1000*1000:" + Due.bush(19, "one"));
        T.due("the most", y.got(0), 19000000);
        DeedTongue z = live("scale 0-1000*1000:" + Due.bush(19, "one"));
        T.due("the least", z.got(0), -19000000);
    }
}
