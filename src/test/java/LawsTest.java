/** Promises 9 to 12: shorter, same, tell, octet. */
public final class LawsTest {
    private static final Due T = new Due("LawsTest");

    public static void main(String[] args) {
        toldBack();
        octets();
        laws();
        numberedAnew();
        refusedShorter();
        sameForms();
        T.finish();
    }

    private static void tells(String text, String want) {
        DeedTongue x = new DeedTongue();
        Due.read(x, text);
        T.due("tell '" + text + "'", Due.told(x, 0), want);
        T.due("OUT's length", x.count(5), want.length());
    }

    private static void toldBack() {
        tells("one", "one");
        tells("  nothing ", "nothing");
        tells("give  give one", "give give one");
        tells(" both ( one , nothing ) ", "both(one,nothing)");
        tells("or(one,one)", "or(one,one)");
        tells("then007 (one,one)", "then 7(one,one)");
        tells("cap5one", "cap 5 one");
        tells("cap 00000 cap 99999 both(one,one)", "cap 0 cap 99999 both(one,one)");
        tells("when s0 > 4 : scale 05 : one", "when s0>4:scale 5:one");
        tells("scale5:one", "scale 5:one");
        tells("anytime day <= s5 + 010 * 3 - 0 : one", "anytime day<=s5+10*3-0:one");
        tells("until 1 >=2:until 1< 2:until 1=2:one", "until 1>=2:until 1<2:until 1=2:one");
        tells("give then 3(give one,cap 2 or(one,give nothing))", "give then 3(give one,cap 2 or(one,give nothing))");
        tells("scale 10000-90909*100:one", "scale 10000-90909*100:one");
        // Blanks that the text had not make OUT longer than the text.
        String tight = Due.times(11, "cap12345") + "one";
        tells(tight, Due.times(11, "cap 12345 ") + "one");
    }

    private static void octets() {
        DeedTongue x = new DeedTongue();
        T.due("tell without it", x.tell(0), -1);
        Due.read(x, "give one");
        Due.read(x, "one");
        T.due("OUT is empty", x.octet(0), -1);
        T.due("tell", x.tell(0), 8);
        T.due("octet(0)", x.octet(0), 'g');
        T.due("octet(4)", x.octet(4), ' ');
        T.due("octet(7)", x.octet(7), 'e');
        T.due("octet(8)", x.octet(8), -1);
        T.due("octet(-1)", x.octet(-1), -1);
        T.due("tell(2)", x.tell(2), -1);
        T.due("tell(-1)", x.tell(-1), -1);
        T.due("OUT stays", x.count(5), 8);
        T.due("octet(0) stays", x.octet(0), 'g');
        T.due("tell", x.tell(1), 3);
        T.due("octet(0)", x.octet(0), 'o');
        T.due("octet(3)", x.octet(3), -1);
    }

    private static void shortens(String text, String want) {
        DeedTongue x = new DeedTongue();
        T.due("form of '" + text + "'", Due.read(x, text), 0);
        T.due("shorter", x.shorter(0), 1);
        T.due("shorter '" + text + "'", Due.told(x, 1), want);
        T.due("and once more", x.shorter(1), 2);
        T.due("stays as it is", Due.told(x, 2), want);
    }

    private static void laws() {
        shortens("one", "one");
        shortens("nothing", "nothing");
        shortens("give nothing", "nothing");
        shortens("give one", "give one");
        shortens("give give one", "one");
        shortens("give give give one", "give one");
        shortens("give give give give one", "one");
        shortens("both(nothing,nothing)", "nothing");
        shortens("both(nothing,one)", "one");
        shortens("both(give one,nothing)", "give one");
        shortens("both(one,one)", "both(one,one)");
        shortens("when 1=1:nothing", "nothing");
        shortens("anytime 1=1:nothing", "nothing");
        shortens("until 1=1:nothing", "nothing");
        shortens("scale 5:nothing", "nothing");
        shortens("cap 5 nothing", "nothing");
        shortens("when 1=1:one", "when 1=1:one");
        shortens("scale 0:one", "nothing");
        shortens("scale 00:both(one,one)", "nothing");
        shortens("scale 1:one", "one");
        shortens("scale 01:give one", "give one");
        shortens("scale 0+0:one", "scale 0+0:one");
        shortens("scale 1*1:one", "scale 1*1:one");
        shortens("scale s0:one", "scale s0:one");
        shortens("scale s1:one", "scale s1:one");
        shortens("scale day:one", "scale day:one");
        shortens("scale 2:one", "scale 2:one");
        shortens("or(one,one)", "one");
        shortens("or(nothing,nothing)", "nothing");
        shortens("or(one,nothing)", "or(one,nothing)");
        shortens("then 3(give one,give one)", "give one");
        shortens("then 3(one,nothing)", "then 3(one,nothing)");
        shortens("cap 5 cap 3 one", "cap 3 one");
        shortens("cap 3 cap 5 one", "cap 3 one");
        shortens("cap 3 cap 5 cap 1 cap 9 one", "cap 1 one");
        shortens("cap 3 give cap 5 one", "cap 3 give cap 5 one");
        inner();
        outward();
    }

    private static void inner() {
        shortens("give scale 1:give one", "one");
        shortens("give both(nothing,give one)", "one");
        shortens("give both(give nothing,give or(one,one))", "one");
        shortens("cap 5 scale 1:cap 3 one", "cap 3 one");
        shortens("cap 5 both(cap 3 one,scale 0:one)", "cap 3 one");
        shortens("or(one,give give one)", "one");
        shortens("or(scale 0:one,nothing)", "nothing");
        shortens("or(scale 0:one,scale 0:give one)", "nothing");
        shortens("then 2(scale 0:one,give scale 0:one)", "nothing");
        shortens("or(cap 5 cap 3 one,cap 3 one)", "cap 3 one");
        shortens("or(cap 5 one,cap 3 one)", "or(cap 5 one,cap 3 one)");
        shortens("or(scale 05:one,scale 5:one)", "scale 5:one");
        shortens("or(when s0>1:one,when s0 > 1 : one)", "when s0>1:one");
        shortens("or(when s0>1:one,when s0>=1:one)", "or(when s0>1:one,when s0>=1:one)");
        shortens("or(when s0>1:one,when 1<s0:one)", "or(when s0>1:one,when 1<s0:one)");
        shortens("or(scale 1+2:one,scale 2+1:one)", "or(scale 1+2:one,scale 2+1:one)");
        shortens("or(scale 1+2:one,scale 1-2:one)", "or(scale 1+2:one,scale 1-2:one)");
        shortens("or(when 1+2<3:one,when 1<2+3:one)", "or(when 1+2<3:one,when 1<2+3:one)");
        shortens("or(both(one,give one),both(give one,one))", "or(both(one,give one),both(give one,one))");
        shortens("or(then 1(one,nothing),then 2(one,nothing))", "or(then 1(one,nothing),then 2(one,nothing))");
    }

    private static void outward() {
        shortens("when s0=1:anytime s1<2:until day>3:scale 4:cap 5 give scale 0:one", "nothing");
        shortens("both(or(one,one),both(nothing,when 1=1:both(nothing,nothing)))", "one");
        shortens("give give both(nothing,scale 1:cap 7 cap 5 or(one,one))", "cap 5 one");
        String deep = Due.times(5, "cap 9 scale 2:") + "give one";
        shortens(deep, deep);
        shortens(Due.times(11, "give ") + "one", "give one");
        shortens("both(scale 1+1:one,scale s0:scale 1:scale 3*s1:one)", "both(scale 1+1:one,scale s0:scale 3*s1:one)");
        shortens("when day>s0+1:scale 1:until s1*2=4:scale 3:one", "when day>s0+1:until s1*2=4:scale 3:one");
    }

    private static void numberedAnew() {
        DeedTongue x = new DeedTongue();
        Due.read(x, "both(scale 1:give give one,cap 5 cap 3 give one)");
        T.due("shorter", x.shorter(0), 1);
        T.due("told", Due.told(x, 1), "both(one,cap 3 give one)");
        int[] kinds = {3, 1, 10, 2, 1};
        int[] depths = {0, 1, 1, 2, 3};
        T.due("words", x.words(1), 5);
        for (int k = 0; k < kinds.length; k++) {
            T.due("kind", x.word(1, k, 0), kinds[k]);
            T.due("depth", x.word(1, k, 1), depths[k]);
            T.due("N", x.word(1, k, 2), k == 2 ? 3 : -1);
        }
        T.due("the FORM itself stays", Due.told(x, 0), "both(scale 1:give give one,cap 5 cap 3 give one)");
        T.due("it is lived", x.begin(1, 0, 1), 0);
        T.due("PAYMENTS", x.count(3), 2);
        T.due("WORD", x.payment(0, 3), 1);
        T.due("WORD", x.payment(1, 3), 4);
        T.due("coins", x.payment(1, 2), -1);
    }

    private static void refusedShorter() {
        DeedTongue x = new DeedTongue();
        T.due("shorter(0)", x.shorter(0), -1);
        Due.read(x, "one");
        T.due("shorter(-1)", x.shorter(-1), -1);
        T.due("shorter(1)", x.shorter(1), -1);
        for (int i = 1; i < 20; i++) {
            T.due("shorter", x.shorter(0), i);
        }
        T.due("there are 20", x.shorter(0), -1);
        T.due("FORMS", x.count(1), 20);
        T.due("same still answers", x.same(0, 19), 1);
    }

    private static void same(String a, String b, int want) {
        DeedTongue x = new DeedTongue();
        Due.read(x, a);
        Due.read(x, b);
        T.due("same '" + a + "' '" + b + "'", x.same(0, 1), want);
        T.due("same '" + b + "' '" + a + "'", x.same(1, 0), want);
        T.due("same as itself", x.same(1, 1), 1);
        T.due("FORMS", x.count(1), 2);
    }

    private static void sameForms() {
        same("one", "one", 1);
        same("one", "nothing", 0);
        same("one", "give give one", 1);
        same("one", "give one", 0);
        same("both(one,nothing)", "one", 1);
        same("both(one,give one)", "both(give one,one)", 1);
        same("both(one,give one)", "both(one,one)", 0);
        same("both(one,both(give one,cap 2 one))", "both(both(cap 2 one,give one),one)", 1);
        // Either way, but not grouped in another way.
        same("both(one,both(give one,cap 2 one))", "both(both(one,give one),cap 2 one)", 0);
        same("or(one,give one)", "or(give one,one)", 0);
        same("then 3(one,give one)", "then 3(give one,one)", 0);
        same("then 3(one,give one)", "then 4(one,give one)", 0);
        same("or(both(one,give one),nothing)", "or(both(give one,one),nothing)", 1);
        // The LAWS come first, and find what is ALIKE without turning a both.
        same("or(both(one,give one),both(give one,one))", "both(one,give one)", 0);
        same("cap 5 cap 3 one", "cap 3 one", 1);
        same("when s0>1:one", "when s0>1 : one", 1);
        same("when s0>1:one", "when s0>2:one", 0);
        same("when s0>1:one", "anytime s0>1:one", 0);
        same("when s0>1:one", "when s1>1:one", 0);
        same("scale 1:one", "scale 2:one", 0);
        same("scale 007:one", "scale 7:one", 1);
        same("scale day:one", "scale s0:one", 0);
        same("scale 1+2:one", "scale 3:one", 0);
        same("give both(when 1=2:both(one,scale 2:one),or(one,one))",
                "give both(one,when 1=2:both(scale 2:one,one))", 1);
        DeedTongue x = new DeedTongue();
        Due.read(x, "one");
        T.due("same(0, 1)", x.same(0, 1), -1);
        T.due("same(1, 0)", x.same(1, 0), -1);
        T.due("same(-1, 0)", x.same(-1, 0), -1);
        T.due("same(0, 20)", x.same(0, 20), -1);
    }
}
