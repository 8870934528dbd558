/** The edges of part VI and of promises 9 to 12: SHORTER, ALIKE, THE SAME and TOLD BACK. */
public final class EdgesLawsTest {
    private static final Due T = new Due("EdgesLawsTest");

    public static void main(String[] args) {
        ofNothing();
        nothingOfNothing();
        byZeroAlone();
        byOneAlone();
        gives();
        bothsOfNothing();
        twoAlike();
        capsOfCaps();
        asOftenAsItCanBe();
        deepest();
        numberedAnew();
        twentyForms();
        alike();
        eitherWay();
        refusedSame();
        oneBlank();
        zerosAhead();
        bytesOfOut();
        longestOut();
        T.finish();
    }

    private static void shortens(String text, String want) {
        DeedTongue x = new DeedTongue();
        T.due("form of '" + text + "'", Due.read(x, text), 0);
        T.due("shorter", x.shorter(0), 1);
        T.due("shorter '" + text + "'", Due.told(x, 1), want);
        T.due("no shorter", x.shorter(1), 2);
        T.due("than it is", Due.told(x, 2), want);
    }

    private static void stays(String text) {
        shortens(text, text);
    }

    private static void ofNothing() {
        T.says("give nothing, both(nothing, nothing), when, anytime, until, scale, cap of nothing");
        String[] around = {"give ", "when 1=2:", "anytime 1=2:", "until 1=2:", "scale 7:", "scale s0:", "cap 7 ", "cap 0 "};
        for (String a : around) {
            shortens(a + "nothing", "nothing");
            stays(a + "one");
            for (String b : around) {
                shortens(a + b + "nothing", "nothing");
            }
        }
        shortens("both(nothing,nothing)", "nothing");
    }

    /** What the document does not name stays: an or or a then of nothing and something. */
    private static void nothingOfNothing() {
        stays("nothing");
        stays("or(nothing,one)");
        stays("or(one,nothing)");
        stays("then 5(nothing,one)");
        stays("then 5(one,nothing)");
        stays("then 0(one,give one)");
        stays("until 1=1:one");
        stays("when 1=1:one");
        stays("when 1=2:one");
        stays("cap 0 one");
    }

    private static void byZeroAlone() {
        T.says("scale by the NUMBER 0 alone: nothing");
        shortens("scale 0:one", "nothing");
        shortens("scale 00000:one", "nothing");
        shortens("scale 0:or(one,give one)", "nothing");
        stays("scale 0+0:one");
        stays("scale 0*5:one");
        stays("scale 5*0:one");
        stays("scale 0-0:one");
        stays("scale 1-1:one");
        stays("scale s0:one");
        stays("scale day:one");
        stays("cap 0 one");
        stays("when 0=0:one");
    }

    private static void byOneAlone() {
        T.says("scale by the NUMBER 1 alone: its DEED");
        shortens("scale 1:one", "one");
        shortens("scale 00001:give one", "give one");
        shortens("scale 1:nothing", "nothing");
        stays("scale 1*1:one");
        stays("scale 1+0:one");
        stays("scale 0+1:one");
        stays("scale s1:one");
        stays("scale 2:one");
        stays("scale 10:one");
        stays("scale 11:one");
        stays("cap 1 one");
        stays("when 1=1:one");
    }

    private static void gives() {
        T.says("give give DEED: DEED");
        stays("give one");
        shortens("give give one", "one");
        shortens("give give give one", "give one");
        shortens(Due.times(10, "give ") + "one", "one");
        shortens(Due.times(11, "give ") + "one", "give one");
        shortens(Due.times(11, "give ") + "nothing", "nothing");
        stays("give scale 2:give one");
        shortens("give scale 1:give one", "one");
    }

    private static void bothsOfNothing() {
        T.says("both of nothing and a DEED (either way): that DEED");
        shortens("both(nothing,one)", "one");
        shortens("both(one,nothing)", "one");
        shortens("both(nothing,give or(one,nothing))", "give or(one,nothing)");
        stays("both(one,one)");
        stays("both(one,give one)");
    }

    private static void twoAlike() {
        T.says("or, then of two DEEDS that are alike: that one");
        String[] deeds = {"nothing", "one", "give one", "both(one,give one)", "or(one,nothing)", "then 3(one,nothing)",
            "when s0+1<=day*2:one", "anytime 5>s5:one", "until 1=2:one", "scale s0-3:one", "cap 7 one"};
        for (String a : deeds) {
            for (String b : deeds) {
                shortens("or(" + a + "," + b + ")", a.equals(b) ? a : "or(" + a + "," + b + ")");
                shortens("then 0(" + a + "," + b + ")", a.equals(b) ? a : "then 0(" + a + "," + b + ")");
            }
            shortens("both(give " + a + ",give " + a + ")",
                    a.equals("nothing") ? a : a.equals("give one") ? "both(one,one)" : "both(give " + a + ",give " + a + ")");
        }
    }

    private static void capsOfCaps() {
        T.says("cap N cap M DEED: cap of the lesser one");
        shortens("cap 4 cap 5 one", "cap 4 one");
        shortens("cap 5 cap 4 one", "cap 4 one");
        shortens("cap 5 cap 5 one", "cap 5 one");
        shortens("cap 0 cap 99999 one", "cap 0 one");
        shortens("cap 99999 cap 0 one", "cap 0 one");
        shortens("cap 9 cap 10 one", "cap 9 one");
        shortens(Due.times(10, "cap 9 ") + "cap 8 one", "cap 8 one");
        shortens("cap 8 " + Due.times(10, "cap 9 ") + "one", "cap 8 one");
        shortens("cap 8 cap 9 nothing", "nothing");
        stays("cap 5 give cap 4 one");
        stays("cap 5 both(cap 4 one,cap 3 one)");
        shortens("cap 5 scale 1:cap 4 one", "cap 4 one");
    }

    private static void asOftenAsItCanBe() {
        T.says("SHORTER: by LAWS, from the inner DEEDS outwards, each as often as it can be");
        shortens("or(give give one,scale 1:one)", "one");
        shortens("then 7(or(one,one),both(nothing,or(one,one)))", "one");
        shortens("give or(give one,give cap 3 nothing)", "give or(give one,nothing)");
        shortens("give or(give one,give scale 1:one)", "one");
        shortens("cap 5 or(cap 3 one,cap 4 cap 3 one)", "cap 3 one");
        shortens("cap 2 then 1(cap 3 one,cap 4 cap 3 one)", "cap 2 one");
        shortens("both(scale 0:one,both(when 1=1:give nothing,until s0=1:both(nothing,nothing)))", "nothing");
        shortens("or(or(one,one),or(or(one,one),or(one,one)))", "one");
        // What has become nothing is ALIKE any other nothing.
        shortens("or(scale 0:one,nothing)", "nothing");
        shortens("or(nothing,scale 0:one)", "nothing");
        shortens("then 3(scale 0:one,scale 00:give one)", "nothing");
        shortens("or(scale 0:one,give when 1+2=3:nothing)", "nothing");
    }

    private static void deepest() {
        String eleven = Due.times(11, "scale 2:");
        stays(eleven + "one");
        shortens(eleven + "nothing", "nothing");
        shortens(Due.times(11, "scale 1:") + "one", "one");
        shortens(Due.times(10, "scale 2:") + "scale 0:one", "nothing");
        shortens(Due.times(11, "or(one,") + "one" + Due.times(11, ")"), "one");
        stays("give " + Due.bush(20, "one"));
        stays("scale 1" + Due.times(39, "+1") + ":one");
        stays("when 1" + Due.times(19, "+s0") + "=day" + Due.times(19, "-1") + ":one");
    }

    private static void numberedAnew() {
        T.says("A FORM made SHORTER has its WORDS numbered anew.");
        DeedTongue x = new DeedTongue();
        Due.read(x, "both(nothing,both(give give when day=1:scale 1:one,cap 5 cap 3 one))");
        x.shorter(0);
        int[][] due = {{3, 0, -1}, {6, 1, -1}, {1, 2, -1}, {10, 1, 3}, {1, 2, -1}};
        T.due("words", x.words(1), due.length);
        for (int k = 0; k < due.length; k++) {
            for (int what = 0; what < 3; what++) {
                T.due("word(1, " + k + ", " + what + ")", x.word(1, k, what), due[k][what]);
            }
        }
        T.due("WORD 5", x.word(1, 5, 0), -1);
        T.due("the FORM itself stays", x.words(0), 11);
        x.begin(1, 0, 1);
        T.due("a WORD of what STANDS", x.standing(0, 0, 0), 1);
        T.due("a WORD of a PAYMENT", x.payment(0, 3), 4);
    }

    private static void twentyForms() {
        T.says("A FORM made SHORTER is a FORM more: its number; NONE, and nothing happens, without it, or if there are 20.");
        DeedTongue x = new DeedTongue();
        T.due("without it", x.shorter(0), -1);
        T.due("FORMS", x.count(1), 0);
        Due.read(x, "give give one");
        T.due("FORM 1", x.shorter(1), -1);
        T.due("FORM -1", x.shorter(-1), -1);
        T.due("FORMS", x.count(1), 1);
        for (int form = 1; form < 20; form++) {
            T.due("a FORM more", x.shorter(form - 1), form);
            T.due("FORMS", x.count(1), form + 1);
        }
        T.due("there are 20", x.shorter(0), -1);
        T.due("there are 20", x.shorter(19), -1);
        T.due("FORMS", x.count(1), 20);
        T.due("FORM 19", x.words(19), 1);
        T.due("FORM 20", x.words(20), -1);
    }

    private static void same(String a, String b, int want) {
        DeedTongue x = new DeedTongue();
        T.due("form of '" + a + "'", Due.read(x, a), 0);
        T.due("form of '" + b + "'", Due.read(x, b), 1);
        T.due("same '" + a + "' '" + b + "'", x.same(0, 1), want);
        T.due("same '" + b + "' '" + a + "'", x.same(1, 0), want);
    }

    private static void alike() {
        T.says("ALIKE: the same WORDS, N, TESTS and SUMS sign by sign (but blanks).");
        String[] apart = {"nothing", "one", "give one", "both(one,give one)", "or(one,give one)", "then 3(one,give one)",
            "then 4(one,give one)", "when 1<2:one", "when 1<=2:one", "when 1=2:one", "when 1>=2:one", "when 1>2:one",
            "anytime 1<2:one", "until 1<2:one", "when 2>1:one", "when 1<3:one", "when 1+2<3:one", "when 1<2+3:one",
            "when 1-2<3:one", "when 1*2<3:one", "when s0<2:one", "when s5<2:one", "when day<2:one", "scale 2:one",
            "scale 3:one", "scale 2+3:one", "scale 3+2:one", "scale 5:one", "cap 2 one", "cap 3 one", "cap 2 give one"};
        for (int i = 0; i < apart.length; i++) {
            for (int j = i; j < apart.length; j++) {
                same(apart[i], apart[j], i == j ? 1 : 0);
            }
        }
        same("when s0 + 1 <= day : one", "when s0+1<=day:one", 1);
        same(" both ( one , cap 3 one ) ", "both(one,cap3one)", 1);
    }

    private static void eitherWay() {
        T.says("where the two DEEDS of a both, also of those within, may stand either way");
        same("both(one,give one)", "both(give one,one)", 1);
        same("give both(one,give one)", "give both(give one,one)", 1);
        same("both(both(one,cap 1 one),both(cap 2 one,cap 3 one))", "both(both(cap 3 one,cap 2 one),both(cap 1 one,one))", 1);
        same("both(both(one,cap 1 one),both(cap 2 one,cap 3 one))", "both(both(one,cap 2 one),both(cap 1 one,cap 3 one))", 0);
        same("both(one,both(one,give one))", "both(give one,both(one,one))", 0);
        same("or(one,both(one,give one))", "or(one,both(give one,one))", 1);
        same("or(one,give one)", "or(give one,one)", 0);
        same("then 2(one,give one)", "then 2(give one,one)", 0);
        same("when s0=1:both(one,scale 2:one)", "when s0=1:both(scale 2:one,one)", 1);
        same("both(nothing,both(one,give one))", "both(give give give one,scale 1:one)", 1);
        same("scale 0:both(one,one)", "nothing", 1);
        // The LAWS ask for ALIKE, whichever way the boths stand.
        same("or(both(one,give one),both(give one,one))", "both(one,give one)", 0);
        same("or(both(one,give one),both(give one,one))", "or(both(give one,one),both(one,give one))", 1);
        String deep = "one";
        String turned = "one";
        for (int i = 2; i < 12; i++) {
            deep = "both(scale " + i + ":one," + deep + ")";
            turned = "both(" + turned + ",scale " + i + ":one)";
        }
        same(deep, turned, 1);
        same(deep, turned.replace("scale 2:", "scale 3:"), 0);
    }

    private static void refusedSame() {
        T.says("1 if two FORMS are THE SAME, 0 if not; NONE without these.");
        DeedTongue x = new DeedTongue();
        T.due("no FORMS", x.same(0, 0), -1);
        Due.read(x, "one");
        T.due("same(0, 0)", x.same(0, 0), 1);
        for (int form : new int[] {-1, 1, 19, 20, Integer.MIN_VALUE, Integer.MAX_VALUE}) {
            T.due("same(0, " + form + ")", x.same(0, form), -1);
            T.due("same(" + form + ", 0)", x.same(form, 0), -1);
        }
        for (int i = 1; i < 20; i++) {
            x.shorter(0);
        }
        T.due("same(19, 0)", x.same(19, 0), 1);
        T.due("same(0, 19)", x.same(0, 19), 1);
        T.due("FORMS", x.count(1), 20);
    }

    private static void tells(String text, String want) {
        DeedTongue x = new DeedTongue();
        T.due("form of '" + text + "'", Due.read(x, text), 0);
        T.due("tell '" + text + "'", Due.told(x, 0), want);
        T.due("bytes of OUT", x.count(5), want.length());
        T.due("read again", Due.read(x, want), 1);
        T.due("told again", Due.told(x, 1), want);
        T.due("is the same", x.same(0, 1), 1);
    }

    private static void oneBlank() {
        T.says("one blank between two WORDS or NUMBERS one right behind the other (a THING is one of these), none elsewhere");
        tells("  give   one  ", "give one");
        tells("cap5one", "cap 5 one");
        tells("cap5both ( one , one ) ", "cap 5 both(one,one)");
        tells("then5(one,one)", "then 5(one,one)");
        tells("then 5 ( one , give one )", "then 5(one,give one)");
        tells("scale5:one", "scale 5:one");
        tells("scale s0 : one", "scale s0:one");
        tells("scale day + s0 * 5 - 7 : give one", "scale day+s0*5-7:give one");
        tells("when5=5:one", "when 5=5:one");
        tells("when s0 >= day : one", "when s0>=day:one");
        tells("anytime day <= s5 : one", "anytime day<=s5:one");
        tells("until 1 < 2 : until 1 > 2 : until 1 = 2 : nothing", "until 1<2:until 1>2:until 1=2:nothing");
        String firsts = Due.times(11, "both(") + "one" + Due.times(11, ",nothing)");
        tells(firsts, firsts);
        String seconds = Due.times(11, "then 1(nothing,") + "one" + Due.times(11, ")");
        tells(seconds, seconds);
        tells("cap 1 cap 2 give give then 3 ( nothing , or ( one , cap 4 one ) )",
                "cap 1 cap 2 give give then 3(nothing,or(one,cap 4 one))");
    }

    private static void zerosAhead() {
        T.says("NUMBERS without 0s ahead");
        tells("cap 00000 one", "cap 0 one");
        tells("cap 0 one", "cap 0 one");
        tells("cap 00001 one", "cap 1 one");
        tells("cap 00010 one", "cap 10 one");
        tells("cap 01000 one", "cap 1000 one");
        tells("cap 10000 one", "cap 10000 one");
        tells("cap 99999 one", "cap 99999 one");
        tells("then 09(one,one)", "then 9(one,one)");
        tells("scale 00+01*00100-00000:one", "scale 0+1*100-0:one");
        tells("when 007<=070:one", "when 7<=70:one");
    }

    private static void bytesOfOut() {
        T.says("how many bytes OUT has then; NONE, and OUT stays, without it.");
        DeedTongue x = new DeedTongue();
        T.due("OUT is empty", x.octet(0), -1);
        Due.read(x, "give one");
        Due.read(x, "one");
        T.due("without it", x.tell(2), -1);
        T.due("OUT stays empty", x.count(5), 0);
        T.due("tell(0)", x.tell(0), 8);
        T.due("tell(-1)", x.tell(-1), -1);
        T.due("tell(2)", x.tell(2), -1);
        T.due("OUT stays", x.count(5), 8);
        T.says("Byte i of OUT; NONE.");
        String out = "give one";
        for (int i = 0; i < 8; i++) {
            T.due("octet(" + i + ")", x.octet(i), out.charAt(i));
        }
        for (int i : new int[] {-1, 8, 9, 400, 480, Integer.MIN_VALUE, Integer.MAX_VALUE}) {
            T.due("octet(" + i + ")", x.octet(i), -1);
        }
        T.due("tell(1)", x.tell(1), 3);
        T.due("octet(2)", x.octet(2), 'e');
        T.due("octet(3), which OUT had before", x.octet(3), -1);
    }

    /** The most blanks that a text of 400 bytes and 40 WORDS can have not: two for each cap, and one. */
    private static void longestOut() {
        String values = "12345" + Due.times(16, "*12345") + "*123";
        String text = "scale" + values + ":" + Due.bush(4, Due.times(8, "cap12345") + "one");
        String want = "scale " + values + ":" + Due.bush(4, Due.times(8, "cap 12345 ") + "one");
        T.due("bytes of the text", text.length(), 400);
        DeedTongue x = new DeedTongue();
        T.due("form", Due.read(x, text), 0);
        T.due("words", x.words(0), 40);
        T.due("tell", x.tell(0), 465);
        for (int i : new int[] {0, 5, 6, 111, 112, 399, 400, 461, 463, 464}) {
            T.due("octet(" + i + ")", x.octet(i), want.charAt(i));
        }
        T.due("octet(465)", x.octet(465), -1);
        T.due("bytes of OUT", x.count(5), 465);
    }
}
