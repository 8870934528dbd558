/** Promises 4 to 8: feed, end, form, word, words. */
public final class ReadTest {
    private static final Due T = new Due("ReadTest");

    public static void main(String[] args) {
        tape();
        goodTexts();
        faults();
        limits();
        manyForms();
        wordsOfForms();
        T.finish();
    }

    private static void tape() {
        DeedTongue x = new DeedTongue();
        for (int i = 1; i <= 20; i++) {
            T.due("feed", x.feed(i, 0, 0, 0, 0), 20 * i);
        }
        T.due("feed to a full TAPE", x.feed(0, 0, 0, 0, 0), -1);
        T.due("end(401)", x.end(401), -1);
        T.due("end(-1)", x.end(-1), -1);
        T.due("end(least)", x.end(Integer.MIN_VALUE), -1);
        T.due("count(4)", x.count(4), 400);
        T.due("end(400)", x.end(400), 400);
        T.due("end(381)", x.end(381), 381);
        T.due("feed would be 401", x.feed(0, 0, 0, 0, 0), -1);
        T.due("count(4)", x.count(4), 381);
        T.due("end(380)", x.end(380), 380);
        T.due("feed", x.feed(0, 0, 0, 0, 0), 400);
        T.due("end(0)", x.end(0), 0);
        T.due("end(0) again", x.end(0), 0);
        T.due("end(1) of none", x.end(1), -1);
        // "one " + "    " and so on, of each number the highest byte first.
        T.due("feed", x.feed(0x6f6e6520, 0x20202020, 0x20202020, 0x20202020, 0x20202020), 20);
        T.due("form", x.form(), 0);
        T.due("the TAPE is empty", x.count(4), 0);
        T.due("word", x.word(0, 0, 0), 1);
        Due.put(x, "giv");
        Due.put(x, "e one");
        T.due("two pieces", x.form(), 1);
        T.due("words", x.words(1), 2);
    }

    private static void goodTexts() {
        String[] texts = {"nothing", "one", "  one  ", "give one", "both(one,nothing)", "or ( one , one )",
            "then3(one,one)", "then 00003 (one,one)", "when day<1:one", "when s0<=s5:one", "anytime 1=1:one",
            "until day>=99999:one", "scale 1+2*3-s1:one", "scale5:one", "cap5one", "cap 0 give both(one,one)",
            "when s0 > 4 : scale 05 : one", "until day>3:anytime s1=1:give then 4(one,both(one,one))"};
        for (String text : texts) {
            T.due(text, Due.answer(text), 0);
        }
    }

    private static void fault(String text, int place, int kind) {
        T.due("'" + text + "'", Due.answer(text), Due.fault(place, kind));
    }

    private static void faults() {
        T.due("an empty TAPE", new DeedTongue().form(), -3);
        T.due("'one one'", Due.answer("one one"), -35);
        fault("   ", 3, 0);
        fault("one one", 4, 0);
        fault("givee one", 0, 0);
        fault("give", 4, 0);
        fault("give  ", 6, 0);
        fault("both one", 5, 0);
        fault("both(one one)", 9, 0);
        fault("both(one,one", 12, 0);
        fault("both(one)", 8, 0);
        fault("both(,one)", 5, 0);
        fault("both(one,one))", 13, 0);
        fault("(one)", 0, 0);
        fault("One", 0, 0);
        fault("5", 0, 0);
        fault("123456", 0, 0);
        fault("one\0", 3, 0);
        fault("on\u00e9", 0, 0);
        fault("one\u00e9", 3, 0);
        fault("give\tone", 4, 0);
        fault("giveone", 0, 0);
        fault("g ive one", 0, 0);
        fault("onez", 0, 0);
        fault("one`", 3, 0);
        fault("one{", 3, 0);
        fault("day", 0, 0);
        fault("s0", 0, 0);
        fault("nothings", 0, 0);
        fault("anytimes 1=1:one", 0, 0);
        fault("when s6>1:one", 6, 0);
        fault("when s>1:one", 6, 0);
        fault("when s 1>1:one", 6, 0);
        fault("when s", 6, 0);
        fault("when ss1>1:one", 5, 0);
        fault("when days>1:one", 5, 0);
        fault("when da>1:one", 5, 0);
        fault("when one>1:one", 5, 0);
        fault("when day:one", 8, 0);
        fault("when day1>1:one", 8, 0);
        fault("when day>1 one", 11, 0);
        fault("when day>:one", 9, 0);
        fault("when day==1:one", 9, 0);
        fault("when day< =1:one", 10, 0);
        fault("when day=<1:one", 9, 0);
        fault("when day<>1:one", 9, 0);
        fault("when 1<2<3:one", 8, 0);
        fault("when -1<2:one", 5, 0);
        fault("when 1<2:", 9, 0);
        fault("when1", 5, 0);
        fault("scale 123456:one", 6, 1);
        fault("scale 000001:one", 6, 1);
        fault("scale 1+123456:one", 8, 1);
        fault("scale 1 2:one", 8, 0);
        fault("scale 1/2:one", 7, 0);
        fault("scale 1;2:one", 7, 0);
        fault("scale 1+:one", 8, 0);
        fault("scale +1:one", 6, 0);
        fault("scale s12:one", 8, 0);
        fault("scale one:one", 6, 0);
        fault("scale 1=1:one", 7, 0);
        fault("scale (1):one", 6, 0);
        fault("scale 1/2:one", 7, 0);
        fault("cap one", 4, 0);
        fault("cap s0 one", 4, 0);
        fault("cap 123456 one", 4, 1);
        fault("cap 5:one", 5, 0);
        fault("cap 1+1 one", 5, 0);
        fault("cap", 3, 0);
        fault("then 3 one", 7, 0);
        fault("then (one,one)", 5, 0);
        fault("then 100000(one,one)", 5, 1);
        fault("then 5(one,two)", 11, 0);
    }

    private static void limits() {
        T.due("11 within", Due.answer(Due.times(11, "give ") + "one"), 0);
        fault(Due.times(12, "give ") + "one", 60, 2);
        fault(Due.times(12, "give ") + "two", 60, 0);
        fault(Due.times(12, "both(") + "one", 60, 2);
        fault(Due.times(12, "or(one,") + "one", 80, 2);
        fault(Due.times(11, "or(one,") + "give one", 82, 2);
        T.due("11 within, by the second DEEDS", Due.answer(Due.times(11, "or(one,") + "one" + Due.times(11, ")")), 0);
        fault(Due.times(12, "give "), 60, 0);
        T.due("40 VALUES", Due.answer("scale 1" + Due.times(39, "+1") + ":one"), 0);
        fault("scale 1" + Due.times(40, "+1") + ":one", 86, 4);
        fault("scale 1" + Due.times(39, "+1") + "+123456:one", 86, 1);
        fault("scale 1" + Due.times(39, "+1") + "+two:one", 86, 0);
        fault("scale 1" + Due.times(39, "+1") + "+:one", 86, 0);
        wrongThings();
        T.due("N is no VALUE", Due.answer("cap 5 then 3(scale 1" + Due.times(39, "+1") + ":one,one)"), 0);
        T.due("VALUES of all SUMS", Due.answer("when 1=1:when 1" + Due.times(18, "+1") + "=1" + Due.times(18, "+1")
                + ":one"), 0);
        fault("when 1=1:when 1" + Due.times(18, "+1") + "=1" + Due.times(19, "+1") + ":one", 90, 4);
        fortyWords();
        text400();
    }

    /** The s of a 41st VALUE is ahead of the byte behind it that can't stand there. */
    private static void wrongThings() {
        String forty = "scale " + Due.times(40, "1+");
        fault(forty + "s1:one", 86, 4);
        fault(forty + "s9:one", 86, 4);
        fault(forty + "s9\0\0", 86, 4);
        fault(forty + "s6:one", 86, 4);
        fault(forty + "s/:one", 86, 4);
        fault(forty + "s:one", 86, 4);
        fault(forty + "s 1:one", 86, 4);
        fault(forty + "s+1:one", 86, 4);
        fault(forty + "s\u00e9", 86, 4);
        fault(forty + "s", 86, 4);
        fault(forty + "  s", 88, 4);
        fault(forty + "ss1:one", 86, 0);
        fault(forty + "sa1:one", 86, 0);
        fault(forty + "days:one", 86, 0);
        fault(forty + "day:one", 86, 4);
        fault(forty + "day1:one", 86, 4);
        fault(forty + "12345x", 86, 4);
        fault(forty, 86, 0);
        fault(forty + "  ", 88, 0);
        fault(forty + ")", 86, 0);
        // A 40th VALUE is none too many, so that its byte behind the s is the first FAULT.
        String fewer = "scale " + Due.times(39, "1+");
        fault(fewer + "s9:one", 85, 0);
        fault(fewer + "s:one", 85, 0);
        fault(fewer + "s", 85, 0);
        fault(fewer + "s9+s9:one", 85, 0);
        // The 41st of a FORM, wherever its SUM stands.
        String left = "when " + Due.times(39, "1+") + "1=";
        fault(left + "s9:one", left.length(), 4);
        fault(left + "s:one", left.length(), 4);
        String inner = "when 1=" + Due.times(38, "1+") + "1:both(one,until ";
        fault(inner + "s8>1:one)", inner.length(), 4);
        fault(inner + "s>1:one)", inner.length(), 4);
    }

    /** both's of 3, 7, 15, 31 WORDS, so that none is within too many. */
    private static String tree(int depth) {
        return depth == 0 ? "one" : "both(" + tree(depth - 1) + "," + tree(depth - 1) + ")";
    }

    private static void fortyWords() {
        // 1 + 31 + 8 WORDS: the both, a tree, and a give ahead of a tree of 7.
        String forty = "both(" + tree(4) + ",give " + tree(2) + ")";
        DeedTongue x = new DeedTongue();
        T.due("40 WORDS", Due.read(x, forty), 0);
        T.due("words", x.words(0), 40);
        String more = "both(" + tree(4) + ",give give " + tree(2) + ")";
        fault(more, more.lastIndexOf("one"), 3);
        String other = "both(" + tree(4) + ",give give both(both(one,one),both(one,two)))";
        fault(other, other.lastIndexOf("two"), 0);
        // The 41st WORD within 12 others is 2, of one place the least.
        String both = "both(" + tree(3) + ",both(" + tree(3) + ",";
        String deep = both + Due.times(8, "give ") + "one))";
        T.due("12 WORDS deep, 41 in all", Due.answer(deep), Due.fault(deep.lastIndexOf("one"), 3));
        // 29 WORDS and 11 gives, so that the 12th give is the 41st WORD.
        String before = "both(both(" + tree(3) + ",both(" + tree(2) + ",both(one,give one))),";
        T.due("40 WORDS are no FAULT", Due.answer(before + Due.times(10, "give ") + "one)"), 0);
        fault(before + Due.times(12, "give "), before.length() + 55, 2);
    }

    private static void text400() {
        String text = "one" + Due.times(397, " ");
        T.due("400 bytes", Due.answer(text), 0);
        String wrong = Due.times(399, " ") + "1";
        T.due("FAULT at the last byte", Due.answer(wrong), Due.fault(399, 0));
        String open = "give" + Due.times(396, " ");
        T.due("400 blanks", Due.answer(Due.times(400, " ")), -3203);
        T.due("FAULT behind the last byte", Due.answer(open), -3203);
    }

    private static void manyForms() {
        DeedTongue x = new DeedTongue();
        for (int i = 0; i < 20; i++) {
            T.due("form", Due.read(x, "give one"), i);
            T.due("a FAULT is no FORM", Due.read(x, "two"), i < 19 ? -3 : -1);
        }
        T.due("FORMS", x.count(1), 20);
        T.due("the TAPE stays", x.count(4), 3);
        T.due("form", x.form(), -1);
        T.due("the TAPE stays", x.count(4), 3);
        DeedTongue y = new DeedTongue();
        T.due("a FAULT", Due.read(y, "two"), -3);
        T.due("empties the TAPE", y.count(4), 0);
        T.due("no FORM", y.count(1), 0);
        T.due("then one", Due.read(y, "one"), 0);
    }

    private static void wordsOfForms() {
        DeedTongue x = new DeedTongue();
        Due.read(x, "both(or(nothing,one),then 07(give one,when 1=1:anytime 1=1:until 1=1:scale 1:cap 0 one))");
        int[] kinds = {3, 4, 0, 1, 5, 2, 1, 6, 7, 8, 9, 10, 1};
        int[] depths = {0, 1, 2, 2, 1, 2, 3, 2, 3, 4, 5, 6, 7};
        T.due("words", x.words(0), kinds.length);
        for (int k = 0; k < kinds.length; k++) {
            T.due("kind of " + k, x.word(0, k, 0), kinds[k]);
            T.due("depth of " + k, x.word(0, k, 1), depths[k]);
            T.due("N of " + k, x.word(0, k, 2), k == 4 ? 7 : k == 11 ? 0 : -1);
        }
        T.due("word(1, 0, 0)", x.word(1, 0, 0), -1);
        T.due("word(-1, 0, 0)", x.word(-1, 0, 0), -1);
        T.due("word(20, 0, 0)", x.word(20, 0, 0), -1);
        T.due("word(0, 13, 0)", x.word(0, 13, 0), -1);
        T.due("word(0, -1, 0)", x.word(0, -1, 0), -1);
        T.due("word(0, 0, 3)", x.word(0, 0, 3), -1);
        T.due("word(0, 4, 3)", x.word(0, 4, 3), -1);
        T.due("word(0, 4, -1)", x.word(0, 4, -1), -1);
        T.due("word(0, 0, -1)", x.word(0, 0, -1), -1);
        T.due("words(1)", x.words(1), -1);
        T.due("words(-1)", x.words(-1), -1);
        T.due("words(20)", x.words(20), -1);
        Due.read(x, "cap 99999 one");
        T.due("the greatest N", x.word(1, 0, 2), 99999);
    }
}
