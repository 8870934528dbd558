/** The edges of part II and of promises 4 to 8: the TAPE, the texts of FORMS, and their FAULTS. */
public final class EdgesTextTest {
    private static final Due T = new Due("EdgesTextTest");

    public static void main(String[] args) {
        bytesOfNumbers();
        fullTape();
        endOfTape();
        emptyThen();
        twentyForms();
        longTexts();
        kindsOfWords();
        digits();
        things();
        signs();
        blanks();
        noBlanks();
        bytesBesideLetters();
        lettersGoOn();
        fortyWords();
        elevenOthers();
        fortyValues();
        theEnd();
        firstAlongTheText();
        leastOfOnePlace();
        wordsOfAForm();
        T.finish();
    }

    private static void good(String text) {
        T.due("'" + text + "'", Due.answer(text), 0);
    }

    private static void fault(String text, int place, int kind) {
        T.due("'" + text + "'", Due.answer(text), Due.fault(place, kind));
    }

    /** A FAULT at the end of some words ahead. */
    private static void behind(String ahead, String rest, int kind) {
        fault(ahead + rest, ahead.length(), kind);
    }

    private static void bytesOfNumbers() {
        T.says("Twenty bytes come behind the TAPE, of each number the highest first");
        for (int at = 0; at < 20; at++) {
            int[] n = {0x20202020, 0x20202020, 0x20202020, 0x20202020, 0x20202020};
            int shift = 24 - at % 4 * 8;
            n[at / 4] ^= (0x20 ^ 0xff) << shift;
            DeedTongue x = new DeedTongue();
            T.due("feed", x.feed(n[0], n[1], n[2], n[3], n[4]), 20);
            T.due("byte " + at, x.form(), Due.fault(at, 0));
            DeedTongue y = new DeedTongue();
            y.feed(0x20202020, 0x20202020, 0x20202020, 0x20202020, 0x20202020);
            T.due("feed", y.feed(n[0], n[1], n[2], n[3], n[4]), 40);
            T.due("byte " + (20 + at), y.form(), Due.fault(20 + at, 0));
        }
        DeedTongue z = new DeedTongue();
        z.feed(0x676f6f64, 0x67697665, 0x206f6e65, 0x20202020, 0x20202020);
        T.due("good is no WORD", z.form(), Due.fault(0, 0));
        z.feed(0x67697665, 0x206f6e65, 0x20202020, 0x20202020, 0x20202020);
        T.due("give one", z.form(), 0);
        T.due("its WORDS", z.words(0), 2);
    }

    private static void fullTape() {
        T.says("how many it has; NONE, and none comes, if it would have more than 400.");
        DeedTongue x = new DeedTongue();
        for (int n = 20; n <= 400; n += 20) {
            T.due("feed", x.feed(0x20202020, 0x20202020, 0x20202020, 0x20202020, 0x20202020), n);
        }
        T.due("feed to 400", x.feed(0, 0, 0, 0, 0), -1);
        T.due("none came", x.count(4), 400);
        T.due("400 blanks are still there", x.form(), Due.fault(400, 0));
        for (int size : new int[] {380, 381, 390, 399}) {
            DeedTongue y = new DeedTongue();
            for (int i = 0; i < 20; i++) {
                y.feed(0x20202020, 0x20202020, 0x20202020, 0x20202020, 0x20202020);
            }
            y.end(size);
            T.due("feed to " + size, y.feed(0x31313131, 0, 0, 0, 0), size == 380 ? 400 : -1);
            T.due("bytes", y.count(4), size == 380 ? 400 : size);
            T.due("where the blanks end", y.form(), Due.fault(size, 0));
        }
    }

    private static void endOfTape() {
        T.says("The TAPE has its first n bytes alone: n; NONE, and nothing happens, if it has not so many, or n is below 0.");
        DeedTongue x = new DeedTongue();
        T.due("end(0) of none", x.end(0), 0);
        T.due("end(1) of none", x.end(1), -1);
        T.due("end(-1) of none", x.end(-1), -1);
        x.feed(0x6f6e6531, 0x31313131, 0, 0, 0);
        T.due("end(21) of 20", x.end(21), -1);
        T.due("end(-1) of 20", x.end(-1), -1);
        T.due("bytes", x.count(4), 20);
        T.due("end(20) of 20", x.end(20), 20);
        T.due("bytes", x.count(4), 20);
        T.due("end(3)", x.end(3), 3);
        T.due("bytes", x.count(4), 3);
        T.due("end(4) of 3: what was cut is gone", x.end(4), -1);
        T.due("its first 3 bytes alone", x.form(), 0);
        x.feed(0x6f6e6531, 0x31313131, 0, 0, 0);
        T.due("end(0)", x.end(0), 0);
        T.due("an empty text", x.form(), Due.fault(0, 0));
        T.due("end(1) of an empty TAPE", x.end(1), -1);
    }

    private static void emptyThen() {
        T.says("The TAPE, which is empty then, is a FORM: its number; -2 - its FAULT");
        DeedTongue x = new DeedTongue();
        T.due("an empty TAPE", x.form(), -3);
        T.due("bytes", x.count(4), 0);
        T.due("one", Due.read(x, "one"), 0);
        T.due("bytes", x.count(4), 0);
        T.due("and an empty TAPE again", x.form(), -3);
        T.due("two", Due.read(x, "two"), -3);
        T.due("bytes", x.count(4), 0);
        T.due("no FORM of it", x.count(1), 1);
        T.due("the next number", Due.read(x, "one"), 1);
    }

    private static void twentyForms() {
        T.says("FORMS 0 to 19");
        DeedTongue x = new DeedTongue();
        T.due("words(-1)", x.words(-1), -1);
        for (int form = 0; form < 20; form++) {
            T.due("words ahead of it", x.words(form), -1);
            T.due("form", Due.read(x, form % 2 == 0 ? "one" : "give one"), form);
        }
        for (int form = 0; form < 20; form++) {
            T.due("words of it", x.words(form), 1 + form % 2);
        }
        T.due("words(20)", x.words(20), -1);
        T.says("NONE, and nothing happens: there are 20.");
        Due.put(x, "give give one");
        T.due("a good text", x.form(), -1);
        T.due("stays on the TAPE", x.count(4), 13);
        x.end(4);
        T.due("a FAULT", x.form(), -1);
        T.due("stays on the TAPE", x.count(4), 4);
        x.end(0);
        T.due("an empty TAPE", x.form(), -1);
        T.due("FORMS", x.count(1), 20);
        T.due("words(20)", x.words(20), -1);
        T.due("words(19)", x.words(19), 2);
        T.due("one more by shorter()", x.shorter(0), -1);
        DeedTongue y = new DeedTongue();
        for (int form = 0; form < 19; form++) {
            T.due("form", Due.read(y, "give one"), form);
        }
        T.due("the 20th by shorter()", y.shorter(18), 19);
        T.due("the 21st", Due.read(y, "one"), -1);
        T.due("FORMS", y.count(1), 20);
    }

    private static void longTexts() {
        T.says("texts of at most 400 bytes, each one DEED");
        String blanks = Due.times(397, " ");
        DeedTongue x = new DeedTongue();
        T.due("one and 397 blanks", Due.read(x, "one" + blanks), 0);
        T.due("397 blanks and one", Due.read(x, blanks + "one"), 1);
        T.due("WORDS", x.words(1), 1);
        // 55, 342 and 3 bytes.
        String deep = Due.times(11, "give ") + Due.times(342, " ") + "one";
        T.due("400 bytes", Due.read(x, deep), 2);
        T.due("its WORDS", x.words(2), 12);
        fault(Due.times(398, " ") + "on", 398, 0);
        fault(Due.times(397, " ") + "onf", 397, 0);
        fault("one" + Due.times(396, " ") + "e", 399, 0);
        fault("one one", 4, 0);
        fault("one,one", 3, 0);
        fault("one)", 3, 0);
        fault("one 5", 4, 0);
    }

    private static void kindsOfWords() {
        T.says("0 nothing, 1 one, 2 give, 3 both, 4 or, 5 then, 6 when, 7 anytime, 8 until, 9 scale, 10 cap");
        String[] texts = {"nothing", "one", "give one", "both(one,one)", "or(one,one)", "then 1(one,one)",
            "when 1=1:one", "anytime 1=1:one", "until 1=1:one", "scale 1:one", "cap 1 one"};
        String[] names = {"nothing", "one", "give", "both", "or", "then", "when", "anytime", "until", "scale", "cap"};
        for (int kind = 0; kind < texts.length; kind++) {
            DeedTongue x = new DeedTongue();
            T.due(texts[kind], Due.read(x, texts[kind]), 0);
            T.due("its kind", x.word(0, 0, 0), kind);
            // A letter less, a letter more, and another one are no WORD.
            String name = names[kind];
            fault(name.substring(0, name.length() - 1) + texts[kind].substring(name.length()), 0, 0);
            fault(name.substring(1), 0, 0);
            fault(name + "e", 0, 0);
            fault(name + name, 0, 0);
            fault(name.substring(0, name.length() - 1) + "z", 0, 0);
            fault(name.toUpperCase(), 0, 0);
        }
    }

    private static void digits() {
        T.says("NUMBERS have 1 to 5 digits (as far as digits go on)");
        String[] ahead = {"then ", "cap ", "scale ", "when ", "when 1=", "anytime 1+", "until day*2>", "scale 1*"};
        String[] rest = {"(one,one)", " one", ":one", "=1:one", ":one", "<1:one", ":one", ":one"};
        String[] taken = {"0", "9", "10", "99999", "00000", "00001", "100", "1000", "12345"};
        for (int i = 0; i < ahead.length; i++) {
            for (String n : taken) {
                good(ahead[i] + n + rest[i]);
            }
            behind(ahead[i], rest[i].trim(), 0);
            behind(ahead[i], "100000" + rest[i], 1);
            behind(ahead[i], "000000" + rest[i], 1);
            behind(ahead[i], "999999" + rest[i], 1);
            behind(ahead[i], "2147483648" + rest[i], 1);
            behind(ahead[i], Due.times(40, "1") + rest[i], 1);
            // Digits beside a blank are two NUMBERS, of which the second can't stand there.
            behind(ahead[i] + "12345 ", "6" + rest[i], 0);
        }
        T.says("1 a NUMBER of more digits");
        behind("cap ", Due.times(396, "7"), 1);
        behind("cap " + "12345", "", 0);
        DeedTongue x = new DeedTongue();
        Due.read(x, "cap 99999 then 00000(one,cap 00042 one)");
        T.due("N 99999", x.word(0, 0, 2), 99999);
        T.due("N 00000", x.word(0, 1, 2), 0);
        T.due("N 00042", x.word(0, 3, 2), 42);
    }

    private static void things() {
        T.says("s and a digit 0 to 5, at once (a THING)");
        for (char c = '0'; c <= '5'; c++) {
            good("scale s" + c + ":one");
            good("when s" + c + "=s" + c + ":one");
        }
        for (String c : new String[] {"6", "7", "8", "9", "/", ":", " 0", " ", "+", "(", "\0", "\u00ff", ""}) {
            behind("scale s", c, 0);
            behind("when 1=s", c, 0);
            behind("when day*s", c, 0);
        }
        // A WORD goes on as far as its letters, a THING no further than one digit.
        behind("scale ", "ss0:one", 0);
        behind("scale ", "so:one", 0);
        behind("scale s0", "0:one", 0);
        behind("scale s5", "1:one", 0);
        behind("scale s1", "day:one", 0);
        behind("scale s1", "s1:one", 0);
        behind("scale s1 ", "1:one", 0);
    }

    private static void signs() {
        T.says("TEST: SUM SIGN SUM, SIGN one of < <= = >= >");
        for (String kind : new String[] {"when ", "anytime ", "until "}) {
            for (String sign : new String[] {"<", "<=", "=", ">=", ">"}) {
                good(kind + "1" + sign + "1:one");
                good(kind + "1 " + sign + " 1:one");
                behind(kind + "1" + sign, ":one", 0);
                behind(kind, sign + "1:one", 0);
                behind(kind + "1" + sign + "1", sign + "1:one", 0);
            }
            for (String sign : new String[] {"!=", ":", "==", "=<", "=>", "<>", "><", "<<", ">>", "< =", "> ="}) {
                int good = sign.equals("!=") || sign.equals(":") ? 0 : 1;
                int blank = sign.indexOf(' ') >= 0 ? 1 : 0;
                behind(kind + "1" + sign.substring(0, good + blank), sign.substring(good + blank) + "1:one", 0);
            }
            behind(kind + "1=1", " one".trim(), 0);
        }
        T.says("SUM: VALUE { (+ or - or *) VALUE }");
        for (String joint : new String[] {"+", "-", "*"}) {
            good("scale 1" + joint + "1:one");
            behind("scale ", joint + "1:one", 0);
            behind("scale 1" + joint, ":one", 0);
            behind("scale 1" + joint, joint + "1:one", 0);
        }
        for (String joint : new String[] {"/", "%", "^", "&", ".", ",", "("}) {
            behind("scale 1", joint + "1:one", 0);
        }
    }

    private static void blanks() {
        T.says("blanks (32) stand between as one likes");
        String[] parts = {"both", "(", "when", "s0", "+", "1", "*", "day", "<=", "2", "-", "s5", ":", "one", ",",
            "then", "7", "(", "cap", "3", "scale", "5", ":", "nothing", ",", "give", "one", ")", ")"};
        StringBuilder tight = new StringBuilder();
        for (int i = 0; i < parts.length; i++) {
            boolean apart = i > 0 && Character.isLetter(parts[i].charAt(0)) && Character.isLetter(parts[i - 1].charAt(0))
                    && parts[i - 1].length() != 2;
            tight.append(apart ? " " : "").append(parts[i]);
        }
        good(tight.toString());
        good(String.join(" ", parts));
        good("   " + String.join("    ", parts) + "   ");
        for (int at = 0; at <= parts.length; at++) {
            StringBuilder b = new StringBuilder();
            for (int i = 0; i < parts.length; i++) {
                b.append(i == at ? Due.times(40, " ") : " ").append(parts[i]);
            }
            good(b.append(at == parts.length ? Due.times(40, " ") : "").toString());
        }
    }

    /** Within a WORD, a NUMBER, a THING and a SIGN no blank can stand. */
    private static void noBlanks() {
        fault("o ne", 0, 0);
        fault("on e", 0, 0);
        fault("no thing", 0, 0);
        behind("cap 1 ", "2 one", 0);
        behind("scale s", " 0:one", 0);
        behind("scale ", "d ay:one", 0);
        behind("scale ", "da y:one", 0);
        behind("when 1< ", "=2:one", 0);
        behind("when 1> ", "=2:one", 0);
    }

    private static void bytesBesideLetters() {
        T.says("0 a byte or WORD that can't stand there");
        for (int b = 0; b < 256; b++) {
            char c = (char) b;
            if (b == ' ') {
                continue;
            }
            boolean letter = c >= 'a' && c <= 'z';
            // A letter makes another WORD of it; any other byte is itself what can't stand there.
            fault("one" + c, letter ? 0 : 3, 0);
            fault(c + "", 0, 0);
            fault("give " + c, 5, 0);
            fault("give one " + c, 9, 0);
            if (c != '(') {
                fault("both" + c, letter ? 0 : 4, 0);
            }
            if (c != ',') {
                fault("both(one " + c, 9, 0);
            }
            if (c != ')') {
                fault("both(one,one " + c, 13, 0);
            }
        }
    }

    private static void lettersGoOn() {
        T.says("WORDS are small letters (as far as these go on)");
        fault("giveone", 0, 0);
        fault("givegive one", 0, 0);
        behind("both(", "oneone,one)", 0);
        behind("both(one,", "onee)", 0);
        behind("cap 5 ", "onee", 0);
        behind("when 1=", "dayday:one", 0);
        behind("when ", "dayone=1:one", 0);
        good("cap5one");
        good("cap5give one");
        good("then5(one,one)");
        good("scale5:one");
        good("when5=5:one");
        fault("cap5", 4, 0);
        fault("scales0:one", 0, 0);
        fault("whenday=1:one", 0, 0);
        fault("one" + Due.times(397, "e"), 0, 0);
        fault(Due.times(400, "z"), 0, 0);
    }

    /** 2 * n - 1 WORDS. */
    private static String bush(int n) {
        return Due.bush(n, "one");
    }

    private static void fortyWords() {
        T.says("(of DEEDS; nothing to cap) are numbered 0, 1, .. along the text; 40 at most");
        DeedTongue x = new DeedTongue();
        T.due("39 WORDS", Due.read(x, bush(20)), 0);
        T.due("words", x.words(0), 39);
        T.due("40 WORDS", Due.read(x, "give " + bush(20)), 1);
        T.due("words", x.words(1), 40);
        T.due("WORD 39", x.word(1, 39, 0), 1);
        T.due("WORD 40", x.word(1, 40, 0), -1);
        T.says("3 the 41st WORD of a DEED (at it)");
        String more = bush(21);
        fault(more, more.lastIndexOf("one"), 3);
        more = "give give " + bush(20);
        fault(more, more.lastIndexOf("one"), 3);
        // Whatever WORD of a DEED it is; N, day and s are none.
        String forty = bush(20).substring(0, bush(20).lastIndexOf("one"));
        String[] last = {"nothing", "one", "give ", "both(", "or(", "then ", "when ", "anytime ", "until ", "scale ", "cap "};
        for (String word : last) {
            behind("give give " + forty, word, 3);
            // As the 40th it may stand, so that the text's end is what is wrong.
            behind("give " + forty + word, "", 0);
        }
        behind("give give " + forty, "two", 0);
        behind("give give " + forty, "5", 0);
        behind("give give " + forty, ")", 0);
        behind("give give " + forty, "", 0);
        behind("give " + forty + "one ", "one", 0);
        good("scale day*s0+s1-day:" + bush(20));
        good("when day+day=s0+s1:" + bush(20));
        good("cap 7 " + bush(20));
    }

    private static void elevenOthers() {
        T.says("each within 11 others at most");
        String[] around = {"give ", "both(", "or(", "then 1(", "when 1=1:", "anytime 1=1:", "until 1=1:", "scale 1:", "cap 1 "};
        String[] close = {"", ",one)", ",one)", ",one)", "", "", "", "", ""};
        for (int i = 0; i < around.length; i++) {
            String eleven = Due.times(11, around[i]);
            good(eleven + "one" + Due.times(11, close[i]));
            good(eleven + "nothing" + Due.times(11, close[i]));
            T.says("2 a WORD of a DEED within 12 others (at it)");
            behind(eleven + around[i], "one", 2);
            behind(eleven + around[i], "nothing", 2);
            behind(eleven + around[i], around[i], 2);
            behind(eleven + around[i] + "  ", "one", 2);
            behind(eleven + around[i], "two", 0);
            behind(eleven + around[i], "5", 0);
            behind(eleven + around[i], "", 0);
        }
        // As the second DEED of the pair.
        String seconds = Due.times(11, "both(one,");
        good(seconds + "one" + Due.times(11, ")"));
        behind(seconds + "both(", "one", 2);
        DeedTongue x = new DeedTongue();
        Due.read(x, seconds + "one" + Due.times(11, ")"));
        T.due("within 11", x.word(0, 22, 1), 11);
        T.due("the last but one", x.word(0, 21, 1), 11);
        T.due("within none", x.word(0, 0, 1), 0);
    }

    private static void fortyValues() {
        T.says("40 VALUES at most.");
        good("scale 1" + Due.times(38, "+1") + ":one");
        good("scale 1" + Due.times(39, "+1") + ":one");
        T.says("4 the 41st VALUE (at its first byte)");
        String[] values = {"1", "99999", "day", "s0", "s5"};
        for (String value : values) {
            String joined = Due.times(39, value + "*");
            good("scale " + joined + value + ":one");
            good("when " + joined.substring(0, joined.length() - 1) + "=" + value + ":one");
            behind("scale " + joined + value + "*", value + ":one", 4);
            behind("when " + joined + value + "=", value + ":one", 4);
            behind("when 1=" + joined, value + ":one", 4);
        }
        // VALUES of all SUMS of a FORM, wherever they stand; N is none.
        String pairs = Due.times(2, "when 1+2-3*4+5=6+7-8*9+s0:");
        good("cap 1 then 2(" + Due.times(2, pairs) + "one,cap 3 one)");
        behind("cap 1 then 2(" + Due.times(2, pairs) + "scale ", "1:one,one)", 4);
        behind("cap 1 then 2(" + Due.times(2, pairs) + "one,until ", "day=1:one)", 4);
        behind("both(scale 1" + Due.times(39, "-1") + ":one,anytime  ", "s0=1:one)", 4);
    }

    private static void theEnd() {
        T.says("DEED: nothing | one | give DEED | both PAIR | or PAIR | then N PAIR | when TEST : DEED | anytime TEST : DEED | "
                + "until TEST : DEED | scale SUM : DEED | cap N DEED. PAIR: ( DEED , DEED ).");
        T.says("or the end (behind the last byte)");
        String[] texts = {"", "give", "both", "both(", "both(one", "both(one,", "both(one,one", "or(nothing", "then",
            "then 5", "then 5(", "when", "when 1", "when 1+", "when 1<", "when 1<=", "when 1=s", "when 1=1", "when 1=1:",
            "anytime day", "until", "until day>3:", "scale", "scale s", "scale 1*", "scale 1", "scale 1:", "cap", "cap 7"};
        for (String text : texts) {
            fault(text, text.length(), 0);
            // The end is behind the last byte, though that be a blank; only an s wants its digit at once.
            if (!text.endsWith("s")) {
                fault(text + "   ", text.length() + 3, 0);
            }
        }
        fault("give" + Due.times(395, " "), 399, 0);
        fault("give" + Due.times(396, " "), 400, 0);
    }

    private static void firstAlongTheText() {
        T.says("FAULTS, the first along the text, 1 + 8 * its place and");
        T.due("place 0, kind 0", Due.answer("two"), -2 - 1);
        T.due("place 4, kind 1", Due.answer("cap 123456 one"), -2 - (1 + 8 * 4 + 1));
        T.due("place 60, kind 2", Due.answer(Due.times(12, "give ") + "one"), -2 - (1 + 8 * 60 + 2));
        T.due("place 86, kind 4", Due.answer("scale 1" + Due.times(40, "+1") + ":one"), -2 - (1 + 8 * 86 + 4));
        behind("both(", "two,three)", 0);
        behind("cap ", "123456 two", 1);
        behind("cap ", "two 123456", 0);
        behind("both(one,", "two) two", 0);
        behind(Due.times(12, "give "), "one two 123456", 2);
        behind("scale " + Due.times(40, "1+"), "1+1+123456+two", 4);
        behind("scale " + Due.times(39, "1+"), "123456+1+1", 1);
        behind("scale " + Due.times(40, "1+"), "s6:one", 4);
        behind("scale " + Due.times(39, "1+") + "s", "6+s6:one", 0);
        String wide = "give give " + bush(20);
        behind(wide.substring(0, wide.lastIndexOf("one")), "one two", 3);
    }

    private static void leastOfOnePlace() {
        T.says("Of one place the least.");
        // 0 and 2, 0 and 3, 0 and 4 exclude one another but at the end and at WORDS that are none of a DEED.
        behind(Due.times(12, "give "), "", 0);
        behind(Due.times(12, "give "), "day", 0);
        behind("scale " + Due.times(40, "1+"), "one", 0);
        behind("scale " + Due.times(40, "1+"), "", 0);
        // 1 and 4.
        behind("scale " + Due.times(40, "1+"), "123456", 1);
        behind("when 1=" + Due.times(39, "1+"), "000000:one", 1);
        behind("scale " + Due.times(40, "1+"), "12345", 4);
        // 2 alone: the 40th WORD, behind 28 and 11 gives; 2 and 3: the 41st, behind 29 and 11 gives.
        String gives = Due.times(11, "give ");
        behind("both(" + bush(14) + "," + gives, "one)", 2);
        behind("both(give " + bush(14) + "," + gives, "one)", 2);
        // 3 alone: the 41st WORD, behind 30 and 10 gives, is within 11 others.
        behind("both(" + bush(15) + "," + Due.times(10, "give "), "one)", 3);
    }

    private static void wordsOfAForm() {
        T.says("1: how many WORDS it is within; 2: N (NONE: it has none). NONE without it, or for another what.");
        DeedTongue x = new DeedTongue();
        T.due("no FORM yet", x.word(0, 0, 0), -1);
        Due.read(x, "cap 0 then 99999(one,give nothing)");
        int[][] due = {{10, 0, 0}, {5, 1, 99999}, {1, 2, -1}, {2, 2, -1}, {0, 3, -1}};
        for (int k = 0; k < due.length; k++) {
            for (int what = 0; what < 3; what++) {
                T.due("word(0, " + k + ", " + what + ")", x.word(0, k, what), due[k][what]);
            }
            T.due("what -1", x.word(0, k, -1), -1);
            T.due("what 3", x.word(0, k, 3), -1);
        }
        for (int what = 0; what < 3; what++) {
            T.due("WORD -1", x.word(0, -1, what), -1);
            T.due("WORD 5", x.word(0, 5, what), -1);
            T.due("FORM -1", x.word(-1, 0, what), -1);
            T.due("FORM 1", x.word(1, 0, what), -1);
        }
        T.says("WORDS of a FORM; NONE without it.");
        T.due("words(-1)", x.words(-1), -1);
        T.due("words(0)", x.words(0), 5);
        T.due("words(1)", x.words(1), -1);
        T.due("words(19)", x.words(19), -1);
        T.due("words(20)", x.words(20), -1);
    }
}
