/**
 * Every refused call of promises 2 to 29, at the first value that is not taken: its answer, and that nothing
 * has happened by it, on a new object, on a used one, on a full one and on the last DAY.
 */
public final class RefusedTest {
    private static final Due T = new Due("RefusedTest");
    private static final int LEAST = Integer.MIN_VALUE;
    private static final int MOST = Integer.MAX_VALUE;
    private static final long NO_GIFT = -1000000000000L;
    private static final long NO_WORTH = -1000000000000000000L;

    private final String name;
    private final Story story;

    private RefusedTest(String name, Story story) {
        this.name = name;
        this.story = story;
    }

    public static void main(String[] args) {
        onNewObject();
        onUsedObject();
        onFullObject();
        onLastDay();
        T.finish();
    }

    private void refused(String call, Story.Call wrong, long due) {
        String where = call + " on " + name;
        T.due(where, story.answer(wrong), due);
        T.due("changed by " + where, story.changedBy(wrong), "nothing");
    }

    private void none(String call, Story.Call wrong) {
        refused(call, wrong, -1);
    }

    private static long bit(boolean b) {
        return b ? 1 : 0;
    }

    /** The calls change something where they are taken, or the other tests here would see nothing. */
    private void taken(String call, Story.Call right) {
        T.due(call + " changes something on " + name, !story.changedBy(right).equals("nothing"), true);
    }

    private static void onNewObject() {
        RefusedTest r = new RefusedTest("a new object", new Story());
        T.says("DAY 0; no FORMS.");
        r.none("words(0)", x -> x.words(0));
        r.none("word(0, 0, 0)", x -> x.word(0, 0, 0));
        r.none("shorter(0)", x -> x.shorter(0));
        r.none("same(0, 0)", x -> x.same(0, 0));
        r.none("tell(0)", x -> x.tell(0));
        r.none("octet(0)", x -> x.octet(0));
        r.none("begin(0, 0, 1)", x -> x.begin(0, 0, 1));
        r.none("stands(0)", x -> x.stands(0));
        r.none("standing(0, 0, 0)", x -> x.standing(0, 0, 0));
        r.none("choose(0, 0, 0, 0)", x -> x.choose(0, 0, 0, 0));
        r.none("take(0, 0, 0)", x -> x.take(0, 0, 0));
        r.refused("payment(0, 0)", x -> x.payment(0, 0), -10000000);
        r.refused("got(0)", x -> x.got(0), 0);
        r.refused("netted(0, 0)", x -> x.netted(0, 0), NO_GIFT);
        r.refused("netted(0, 10)", x -> x.netted(0, 10), NO_GIFT);
        r.refused("weight(1, 1)", x -> bit(x.weight(1, 1)), 0);
        r.refused("adds(1, 0, 1)", x -> bit(x.adds(1, 0, 1)), 0);
        r.refused("worth(0, 1, 3)", x -> x.worth(0, 1, 3), NO_WORTH);
        r.none("comeTo(0, 1, 0)", x -> x.comeTo(0, 1, 0));
        r.none("parted(0, 0, 1)", x -> x.parted(0, 0, 1));
        r.none("end(1)", x -> x.end(1));
        r.refused("see(0, 1, 5)", x -> bit(x.see(0, 1, 5)), 0);
        r.taken("see(0, 0, 5)", x -> bit(x.see(0, 0, 5)));
        r.taken("day()", x -> x.day());
    }

    /** On DAY 2, with 12 FORMS, 4 LIVES, PAYMENTS, gifts, two WAYS, an OUT and a TAPE of 7 bytes. */
    private static Story used() {
        Story s = new Story().then(x -> bit(x.see(0, 0, 5))).then(x -> bit(x.see(5, 0, -7)));
        s.form("both(one,both(when s0>9:one,both(or(one,give one),anytime s0>4:give one)))");
        s.form("give or(one,scale 3:one)");
        s.form("until s1>0:both(or(one,one),anytime 1=1:one)");
        s.form("when day>=3:scale s0*100:one");
        s.form("both(anytime s0>5:one,then 1(one,nothing))");
        for (int thing = 0; thing < 6; thing++) {
            s.form("when day=3:scale s" + thing + ":one");
        }
        s.form("give scale s0:give cap 4 one");
        s.then(x -> x.begin(3, 2, 5)).then(x -> x.begin(11, 4, 6)).then(x -> x.day()).then(x -> x.day());
        s.then(x -> x.begin(0, 2, 5)).then(x -> x.begin(1, 2, 5)).then(x -> x.begin(2, 7, 0)).then(x -> x.begin(4, 3, 1));
        s.then(x -> bit(x.see(1, 2, 1))).then(x -> x.tell(0)).then(x -> x.net(0));
        s.then(x -> bit(x.ways(2))).then(x -> bit(x.weight(0, 3))).then(x -> bit(x.weight(1, 2)));
        s.then(x -> bit(x.adds(0, 0, 7))).then(x -> bit(x.adds(1, 5, -8)));
        return s.text("give on");
    }

    private static void onUsedObject() {
        RefusedTest r = new RefusedTest("a used object", used());
        r.things();
        r.tape();
        r.forms();
        r.lives();
        r.choices();
        r.payments();
        r.waysAndWeights();
        r.worlds();
        r.counts();
        r.whatIsTaken();
    }

    private void things() {
        T.says("A THING on a DAY (not behind NOW) is v: true; false, and nothing happens, for others.");
        refused("see(-1, 2, 1)", x -> bit(x.see(-1, 2, 1)), 0);
        refused("see(6, 2, 1)", x -> bit(x.see(6, 2, 1)), 0);
        refused("see(0, -1, 1)", x -> bit(x.see(0, -1, 1)), 0);
        refused("see(0, 3, 1)", x -> bit(x.see(0, 3, 1)), 0);
        refused("see(5, 399, 1)", x -> bit(x.see(5, 399, 1)), 0);
        refused("see(5, 400, 1)", x -> bit(x.see(5, 400, 1)), 0);
        refused("see(0, 2, 10000)", x -> bit(x.see(0, 2, 10000)), 0);
        refused("see(0, 2, -10000)", x -> bit(x.see(0, 2, -10000)), 0);
        refused("see(0, 0, 10000)", x -> bit(x.see(0, 0, 10000)), 0);
        refused("see of the least", x -> bit(x.see(LEAST, LEAST, LEAST)), 0);
        refused("see of the most", x -> bit(x.see(MOST, MOST, MOST)), 0);
        T.says("A THING on a DAY, as told by now; -10000 without these.");
        refused("seen(-1, 0)", x -> x.seen(-1, 0), -10000);
        refused("seen(6, 0)", x -> x.seen(6, 0), -10000);
        refused("seen(0, -1)", x -> x.seen(0, -1), -10000);
        refused("seen(0, 400)", x -> x.seen(0, 400), -10000);
        refused("seen of the least", x -> x.seen(LEAST, LEAST), -10000);
        refused("seen of the most", x -> x.seen(MOST, MOST), -10000);
    }

    private void tape() {
        T.says("NONE, and nothing happens, if it has not so many, or n is below 0.");
        none("end(8)", x -> x.end(8));
        none("end(-1)", x -> x.end(-1));
        none("end(400)", x -> x.end(400));
        none("end of the least", x -> x.end(LEAST));
        none("end of the most", x -> x.end(MOST));
    }

    private void forms() {
        T.says("NONE without it, or for another what.");
        none("word(-1, 0, 0)", x -> x.word(-1, 0, 0));
        none("word(12, 0, 0)", x -> x.word(12, 0, 0));
        none("word(0, -1, 0)", x -> x.word(0, -1, 0));
        none("word(0, 13, 0)", x -> x.word(0, 13, 0));
        none("word(4, 3, -1)", x -> x.word(4, 3, -1));
        none("word(4, 3, 3)", x -> x.word(4, 3, 3));
        T.says("WORDS of a FORM; NONE without it.");
        none("words(-1)", x -> x.words(-1));
        none("words(12)", x -> x.words(12));
        T.says("its number; NONE, and nothing happens, without it, or if there are 20.");
        none("shorter(-1)", x -> x.shorter(-1));
        none("shorter(12)", x -> x.shorter(12));
        none("shorter of the most", x -> x.shorter(MOST));
        T.says("1 if two FORMS are THE SAME, 0 if not; NONE without these.");
        none("same(-1, 0)", x -> x.same(-1, 0));
        none("same(0, -1)", x -> x.same(0, -1));
        none("same(12, 0)", x -> x.same(12, 0));
        none("same(0, 12)", x -> x.same(0, 12));
        T.says("how many bytes OUT has then; NONE, and OUT stays, without it.");
        none("tell(-1)", x -> x.tell(-1));
        none("tell(12)", x -> x.tell(12));
        none("tell of the least", x -> x.tell(LEAST));
        T.says("Byte i of OUT; NONE.");
        none("octet(-1)", x -> x.octet(-1));
        none("octet(74)", x -> x.octet(74));
        none("octet of the most", x -> x.octet(MOST));
    }

    private void lives() {
        T.says("NONE: there are 40, or something is not as told (two HOUSES).");
        none("begin(-1, 0, 1)", x -> x.begin(-1, 0, 1));
        none("begin(12, 0, 1)", x -> x.begin(12, 0, 1));
        none("begin(0, -1, 1)", x -> x.begin(0, -1, 1));
        none("begin(0, 8, 1)", x -> x.begin(0, 8, 1));
        none("begin(0, 1, -1)", x -> x.begin(0, 1, -1));
        none("begin(0, 1, 8)", x -> x.begin(0, 1, 8));
        none("begin(0, 0, 0)", x -> x.begin(0, 0, 0));
        none("begin(0, 7, 7)", x -> x.begin(0, 7, 7));
        T.says("How many STAND in a LIFE; NONE without it.");
        none("stands(-1)", x -> x.stands(-1));
        none("stands(6)", x -> x.stands(6));
        T.says("6: 1 if its TEST holds NOW (or: 1). NONE without it, or for another what. (A FACTOR may be -1.)");
        none("standing(-1, 0, 0)", x -> x.standing(-1, 0, 0));
        none("standing(6, 0, 0)", x -> x.standing(6, 0, 0));
        none("standing(2, -1, 0)", x -> x.standing(2, -1, 0));
        none("standing(2, 3, 0)", x -> x.standing(2, 3, 0));
        none("standing(2, 0, -1)", x -> x.standing(2, 0, -1));
        none("standing(2, 0, 7)", x -> x.standing(2, 0, 7));
    }

    /** LIFE 2 has a when, an or and an anytime of the first side, 2; LIFE 3 an or of the second, 5. */
    private void choices() {
        T.says("NONE, and nothing happens: no such or, not the CHOOSER's HOUSE, an UNTIL of it holds NOW, or another choice.");
        none("choose(-1, 1, 2, 0)", x -> x.choose(-1, 1, 2, 0));
        none("choose(6, 1, 2, 0)", x -> x.choose(6, 1, 2, 0));
        none("choose(2, -1, 2, 0)", x -> x.choose(2, -1, 2, 0));
        none("choose(2, 3, 2, 0)", x -> x.choose(2, 3, 2, 0));
        none("choose of a when", x -> x.choose(2, 0, 2, 0));
        none("choose of an anytime", x -> x.choose(2, 2, 2, 0));
        none("choose by the other side", x -> x.choose(2, 1, 5, 0));
        none("choose by another HOUSE", x -> x.choose(2, 1, 3, 0));
        none("choose by HOUSE -1", x -> x.choose(2, 1, -1, 0));
        none("choose by HOUSE 8", x -> x.choose(2, 1, 8, 0));
        none("choose of the second side by the first", x -> x.choose(3, 0, 2, 0));
        none("choose -1", x -> x.choose(2, 1, 2, -1));
        none("choose 2", x -> x.choose(2, 1, 2, 2));
        none("choose with an UNTIL that holds", x -> x.choose(4, 0, 7, 0));
        none("choose the second with an UNTIL that holds", x -> x.choose(4, 0, 7, 1));
        T.says("NONE, and nothing happens: no such anytime, not the CHOOSER's HOUSE, its TEST does not hold NOW, or an UNTIL does.");
        none("take(-1, 2, 2)", x -> x.take(-1, 2, 2));
        none("take(6, 2, 2)", x -> x.take(6, 2, 2));
        none("take(2, -1, 2)", x -> x.take(2, -1, 2));
        none("take(2, 3, 2)", x -> x.take(2, 3, 2));
        none("take of a when", x -> x.take(2, 0, 2));
        none("take of an or", x -> x.take(2, 1, 2));
        none("take by the other side", x -> x.take(2, 2, 5));
        none("take by HOUSE -1", x -> x.take(2, 2, -1));
        none("take by HOUSE 8", x -> x.take(2, 2, 8));
        none("take with a TEST that does not hold", x -> x.take(5, 0, 3));
        none("take with an UNTIL that holds", x -> x.take(4, 1, 7));
    }

    private void payments() {
        T.says("-10000000 without it, or for another what.");
        refused("payment(-1, 0)", x -> x.payment(-1, 0), -10000000);
        refused("payment(2, 0)", x -> x.payment(2, 0), -10000000);
        refused("payment(0, -1)", x -> x.payment(0, -1), -10000000);
        refused("payment(0, 4)", x -> x.payment(0, 4), -10000000);
        T.says("All coins to the first side of a LIFE so far; 0 without it.");
        refused("got(-1)", x -> x.got(-1), 0);
        refused("got(6)", x -> x.got(6), 0);
        T.says("NETTED of a DAY: how many gifts; NONE, and nothing happens, for others.");
        none("net(-1)", x -> x.net(-1));
        none("net(400)", x -> x.net(400));
        none("net of the least", x -> x.net(LEAST));
        T.says("-1000000000000 ahead of any, without it, or for another what.");
        refused("netted(-1, 0)", x -> x.netted(-1, 0), NO_GIFT);
        refused("netted(1, 0)", x -> x.netted(1, 0), NO_GIFT);
        refused("netted(0, -1)", x -> x.netted(0, -1), NO_GIFT);
        refused("netted(0, 3)", x -> x.netted(0, 3), NO_GIFT);
        refused("netted(0, 9)", x -> x.netted(0, 9), NO_GIFT);
        refused("netted(0, 18)", x -> x.netted(0, 18), NO_GIFT);
    }

    private void waysAndWeights() {
        T.says("WAYS from now on (1 to 3), all of WEIGHT 1, that add nothing: true; false, and nothing happens, for others.");
        refused("ways(0)", x -> bit(x.ways(0)), 0);
        refused("ways(4)", x -> bit(x.ways(4)), 0);
        refused("ways(-1)", x -> bit(x.ways(-1)), 0);
        refused("ways of the most", x -> bit(x.ways(MOST)), 0);
        T.says("The WEIGHT of a WAY (1 to 4): true; false, and nothing happens, for others.");
        refused("weight(0, 0)", x -> bit(x.weight(0, 0)), 0);
        refused("weight(0, 5)", x -> bit(x.weight(0, 5)), 0);
        refused("weight(-1, 1)", x -> bit(x.weight(-1, 1)), 0);
        refused("weight(2, 1)", x -> bit(x.weight(2, 1)), 0);
        T.says("What a WAY adds to a THING: true; false, and nothing happens, for others.");
        refused("adds(-1, 0, 1)", x -> bit(x.adds(-1, 0, 1)), 0);
        refused("adds(2, 0, 1)", x -> bit(x.adds(2, 0, 1)), 0);
        refused("adds(0, -1, 1)", x -> bit(x.adds(0, -1, 1)), 0);
        refused("adds(0, 6, 1)", x -> bit(x.adds(0, 6, 1)), 0);
        refused("adds(1, -1, 1)", x -> bit(x.adds(1, -1, 1)), 0);
        refused("adds(0, 0, 100)", x -> bit(x.adds(0, 0, 100)), 0);
        refused("adds(0, 0, -100)", x -> bit(x.adds(0, 0, -100)), 0);
    }

    private void worlds() {
        T.says("3: (all WEIGHTS)^n; -1000000000000000000 without these.");
        refused("worth(-1, 1, 0)", x -> x.worth(-1, 1, 0), NO_WORTH);
        refused("worth(12, 1, 3)", x -> x.worth(12, 1, 3), NO_WORTH);
        refused("worth(0, 0, 0)", x -> x.worth(0, 0, 0), NO_WORTH);
        refused("worth(0, 5, 3)", x -> x.worth(0, 5, 3), NO_WORTH);
        refused("worth(0, 1, -1)", x -> x.worth(0, 1, -1), NO_WORTH);
        refused("worth(0, 1, 4)", x -> x.worth(0, 1, 4), NO_WORTH);
        T.says("1 if WORD k of a FORM is COME TO over n DAYS, 0 if not; NONE without these.");
        none("comeTo(-1, 1, 0)", x -> x.comeTo(-1, 1, 0));
        none("comeTo(12, 1, 0)", x -> x.comeTo(12, 1, 0));
        none("comeTo(0, 0, 0)", x -> x.comeTo(0, 0, 0));
        none("comeTo(0, 5, 0)", x -> x.comeTo(0, 5, 0));
        none("comeTo(0, 1, -1)", x -> x.comeTo(0, 1, -1));
        none("comeTo(0, 1, 13)", x -> x.comeTo(0, 1, 13));
        T.says("NONE without these, or with an or, an anytime.");
        none("parted(-1, 3, 1)", x -> x.parted(-1, 3, 1));
        none("parted(3, -1, 1)", x -> x.parted(3, -1, 1));
        none("parted(12, 3, 1)", x -> x.parted(12, 3, 1));
        none("parted(3, 12, 1)", x -> x.parted(3, 12, 1));
        none("parted(3, 3, 0)", x -> x.parted(3, 3, 0));
        none("parted(3, 3, 5)", x -> x.parted(3, 3, 5));
        none("parted with an or", x -> x.parted(1, 3, 1));
        none("parted with an or", x -> x.parted(3, 1, 1));
        none("parted with an anytime", x -> x.parted(4, 3, 1));
        none("parted with an anytime", x -> x.parted(3, 4, 1));
    }

    private void counts() {
        T.says("7: what was LOST. NONE for others.");
        none("count(-1)", x -> x.count(-1));
        none("count(8)", x -> x.count(8));
        none("count of the least", x -> x.count(LEAST));
        none("count of the most", x -> x.count(MOST));
    }

    /** Questions change nothing either; what is taken does, and is seen here. */
    private void whatIsTaken() {
        refused("worth(0, 4, 0)", x -> x.worth(0, 4, 0) * 0, 0);
        refused("comeTo(0, 4, 9)", x -> x.comeTo(0, 4, 9) * 0, 0);
        refused("parted(3, 5, 4)", x -> x.parted(3, 5, 4) * 0, 0);
        refused("same(0, 1)", x -> x.same(0, 1) * 0, 0);
        taken("see(5, 2, 9999)", x -> bit(x.see(5, 2, 9999)));
        taken("feed", x -> x.feed(0x65202020, 0x20202020, 0x20202020, 0x20202020, 0x20202020));
        taken("end(6)", x -> x.end(6));
        taken("end(0)", x -> x.end(0));
        taken("form()", x -> x.form());
        taken("shorter(11)", x -> x.shorter(11));
        taken("tell(11)", x -> x.tell(11));
        taken("begin(11, 7, 0)", x -> x.begin(11, 7, 0));
        taken("begin of what pays nothing", x -> x.begin(3, 0, 1));
        taken("day()", x -> x.day());
        taken("choose the first", x -> x.choose(2, 1, 2, 0));
        taken("choose the second", x -> x.choose(2, 1, 2, 1));
        taken("choose by the second side", x -> x.choose(3, 0, 5, 1));
        taken("take", x -> x.take(2, 2, 2));
        taken("net(2)", x -> x.net(2));
        taken("ways(1)", x -> bit(x.ways(1)));
        taken("ways(2)", x -> bit(x.ways(2)));
        taken("weight(0, 4)", x -> bit(x.weight(0, 4)));
        taken("weight(1, 1)", x -> bit(x.weight(1, 1)));
        taken("adds(0, 5, 1)", x -> bit(x.adds(0, 5, 1)));
        taken("adds(1, 2, -99)", x -> bit(x.adds(1, 2, -99)));
    }

    /** 20 FORMS, 40 LIVES, a TAPE of 400 bytes and three WAYS. */
    private static void onFullObject() {
        Story s = new Story().form("both(one,both(or(one,nothing),anytime 1=1:give one))");
        s.times(19, x -> x.shorter(0)).times(40, x -> x.begin(19, 0, 7));
        s.times(20, x -> x.feed(0x6f6e6520, 0x20202020, 0x20202020, 0x20202020, 0x20202020));
        s.then(x -> bit(x.ways(3))).then(x -> bit(x.adds(2, 5, 99)));
        RefusedTest r = new RefusedTest("a full object", s);
        T.says("NONE, and none comes, if it would have more than 400.");
        r.none("feed to a full TAPE", x -> x.feed(1, 2, 3, 4, 5));
        r.none("end(401)", x -> x.end(401));
        T.says("-2 - its FAULT; NONE, and nothing happens: there are 20.");
        r.none("form()", x -> x.form());
        T.says("A FORM made SHORTER is a FORM more: its number; NONE, and nothing happens, without it, or if there are 20.");
        r.none("shorter(0)", x -> x.shorter(0));
        r.none("shorter(19)", x -> x.shorter(19));
        r.none("shorter(20)", x -> x.shorter(20));
        r.none("words(20)", x -> x.words(20));
        r.none("tell(20)", x -> x.tell(20));
        T.says("A LIFE is begun: its number; NONE: there are 40");
        r.none("begin(0, 0, 7)", x -> x.begin(0, 0, 7));
        r.none("begin(19, 1, 2)", x -> x.begin(19, 1, 2));
        r.none("stands(40)", x -> x.stands(40));
        r.refused("got(40)", x -> x.got(40), 0);
        r.none("choose of LIFE 40", x -> x.choose(40, 0, 0, 0));
        r.none("take of LIFE 40", x -> x.take(40, 1, 0));
        r.refused("payment(40, 0)", x -> x.payment(40, 0), -10000000);
        r.refused("weight(3, 1)", x -> bit(x.weight(3, 1)), 0);
        r.refused("adds(3, 0, 1)", x -> bit(x.adds(3, 0, 1)), 0);
        // A TAPE that can't take twenty more, and one that just can't; what is on it is no text of a FORM.
        RefusedTest short1 = new RefusedTest("a TAPE of 381", new Story().times(20, x -> x.feed(0, 0, 0, 0, 0))
                .then(x -> x.end(381)));
        short1.none("feed", x -> x.feed(1, 2, 3, 4, 5));
        short1.none("end(382)", x -> x.end(382));
        RefusedTest fits = new RefusedTest("a TAPE of 380", new Story().times(19, x -> x.feed(0, 0, 0, 0, 0)));
        fits.taken("feed", x -> x.feed(1, 2, 3, 4, 5));
    }

    private static void onLastDay() {
        Story s = new Story().form("both(one,both(when day>399:one,anytime s0>0:one))");
        s.then(x -> x.begin(0, 0, 1)).times(399, x -> x.day());
        RefusedTest r = new RefusedTest("DAY 399", s);
        T.says("how many PAYMENTS there were by it; NONE, and nothing happens, on DAY 399.");
        r.none("day()", x -> x.day());
        T.says("DAYS 0 to 399; NOW (0 at first).");
        r.refused("see(0, 400, 1)", x -> bit(x.see(0, 400, 1)), 0);
        r.refused("seen(0, 400)", x -> x.seen(0, 400), -10000);
        r.none("net(400)", x -> x.net(400));
        r.taken("see(0, 399, 1)", x -> bit(x.see(0, 399, 1)));
        r.taken("begin(0, 0, 1)", x -> x.begin(0, 0, 1));
    }
}
