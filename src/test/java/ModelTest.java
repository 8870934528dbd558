import java.util.ArrayList;
import java.util.List;
import java.util.Random;

/** Random texts and runs of calls, whose answers are compared with those of the model, 512 calls an object. */
public final class ModelTest {
    private static final Due T = new Due("ModelTest");
    private static final String[] SIGNS = {"<", "<=", "=", ">=", ">"};
    private static final String BYTES = "abcdegnorstuvy012569 (),:+-*<=>s d";

    private final Random random;
    private int deedsLeft;

    private ModelTest(long seed) {
        random = new Random(seed);
    }

    public static void main(String[] args) {
        for (int seed = 0; seed < 4000; seed++) {
            new ModelTest(seed).texts();
        }
        for (int seed = 0; seed < 1500; seed++) {
            new ModelTest(seed).lives();
        }
        for (int seed = 0; seed < 1500; seed++) {
            new ModelTest(seed).worlds();
        }
        T.finish();
    }

    private String blanks() {
        return random.nextInt(8) == 0 ? "  ".substring(random.nextInt(2)) : "";
    }

    private String value() {
        switch (random.nextInt(6)) {
            case 0:
                return "day";
            case 1:
            case 2:
                return "s" + random.nextInt(3);
            case 3:
                return random.nextInt(30) == 0 ? "99999" : "0" + random.nextInt(3);
            default:
                return Integer.toString(random.nextInt(5));
        }
    }

    private String sum() {
        StringBuilder b = new StringBuilder(value());
        while (random.nextInt(3) == 0) {
            b.append(blanks()).append("+-*".charAt(random.nextInt(3))).append(blanks()).append(value());
        }
        return b.toString();
    }

    private String test() {
        return " " + sum() + blanks() + SIGNS[random.nextInt(5)] + blanks() + sum() + blanks() + ":" + blanks();
    }

    private String pair(int depth, boolean choices) {
        return blanks() + "(" + blanks() + deed(depth + 1, choices) + blanks() + "," + blanks()
                + deed(depth + 1, choices) + blanks() + ")";
    }

    private String deed(int depth, boolean choices) {
        int kind = depth > 9 || deedsLeft <= 0 ? random.nextInt(2) : random.nextInt(13);
        deedsLeft--;
        switch (kind) {
            case 0:
                return random.nextInt(3) == 0 ? "nothing" : "one";
            case 1:
                return "one";
            case 2:
                return "give " + blanks() + deed(depth + 1, choices);
            case 4:
            case 7:
                if (choices) {
                    return kind == 4 ? "or" + pair(depth, true) : "anytime" + test() + deed(depth + 1, true);
                }
                return "both" + pair(depth, false);
            case 5:
                return "then " + random.nextInt(6) + pair(depth, choices);
            case 6:
            case 11:
                return "when" + test() + deed(depth + 1, choices);
            case 8:
                return "until" + test() + deed(depth + 1, choices);
            case 9:
                return "scale " + sum() + ":" + deed(depth + 1, choices);
            case 10:
                return "cap " + random.nextInt(9) + " " + deed(depth + 1, choices);
            default:
                return "both" + pair(depth, choices);
        }
    }

    private String text(boolean choices) {
        deedsLeft = random.nextInt(40);
        String text = blanks() + deed(0, choices) + blanks();
        return text.length() > 400 ? "one" : text;
    }

    /** A text of 38 to 43 VALUES, often with a byte near the last ones that can't stand there. */
    private String manyValues() {
        int n = 38 + random.nextInt(6);
        int middle = 1 + random.nextInt(n - 1);
        StringBuilder b = new StringBuilder("when ");
        for (int i = 0; i < n; i++) {
            String joint = i == middle ? "=" : i == 0 ? "" : "+-*".substring(random.nextInt(3)).substring(0, 1);
            b.append(joint).append(blanks()).append(value());
        }
        String text = b.append(":one").toString();
        return random.nextBoolean() ? text : marred(text, Math.max(0, text.length() - 25));
    }

    private String marred(String text, int from) {
        StringBuilder b = new StringBuilder(text);
        int at = from + random.nextInt(b.length() - from);
        char c = random.nextInt(9) == 0 ? (char) random.nextInt(256) : BYTES.charAt(random.nextInt(BYTES.length()));
        switch (random.nextInt(4)) {
            case 0:
                b.setCharAt(at, c);
                break;
            case 1:
                b.deleteCharAt(at);
                break;
            case 2:
                b.setLength(at);
                break;
            default:
                b.insert(at, c);
                break;
        }
        return b.length() > 400 ? "give" : b.toString();
    }

    private static int due(String text, int count, List<Model.Node> forms) {
        try {
            forms.add(Model.Parser.parse(text));
            return count;
        } catch (Model.Fault fault) {
            return -2 - fault.number;
        }
    }

    private void texts() {
        Again x = new Again();
        List<Model.Node> forms = new ArrayList<>();
        for (int i = 0; i < 6; i++) {
            String text = random.nextInt(3) == 0 ? marred(text(true), 0) : text(true);
            int want = due(text, forms.size(), forms);
            T.due("form of '" + text + "'", x.read(text), want);
        }
        String many = manyValues();
        T.due("form of '" + many + "'", x.read(many), due(many, forms.size(), forms));
        int read = forms.size();
        for (int i = 0; i < read; i++) {
            int form = i;
            wordsOf(x, i, forms.get(i));
            forms.add(Model.shorter(forms.get(i)));
            T.due("shorter", x.step(t -> t.shorter(form)), forms.size() - 1);
            wordsOf(x, forms.size() - 1, forms.get(forms.size() - 1));
        }
        for (int i = 0; i < forms.size(); i++) {
            for (int j = 0; j < forms.size(); j++) {
                int one = i;
                int two = j;
                String a = Model.turned(Model.shorter(forms.get(i)));
                String b = Model.turned(Model.shorter(forms.get(j)));
                T.due("same", x.ask(t -> t.same(one, two)), a.equals(b) ? 1 : 0);
            }
        }
    }

    private static void wordsOf(Again x, int form, Model.Node node) {
        T.due("told", x.told(form), node.text());
        List<Model.Node> all = node.flat();
        T.due("words", x.ask(t -> t.words(form)), all.size());
        for (int i = 0; i < all.size(); i++) {
            int k = i;
            T.due("kind", x.ask(t -> t.word(form, k, 0)), Model.KINDS.indexOf(all.get(k).kind));
            T.due("N", x.ask(t -> t.word(form, k, 2)), all.get(k).n);
        }
        depths(x, form, node, 0, all);
    }

    private static void depths(Again x, int form, Model.Node node, int depth, List<Model.Node> all) {
        T.due("depth", x.ask(t -> t.word(form, all.indexOf(node), 1)), depth);
        for (Model.Node d : node.deeds) {
            depths(x, form, d, depth + 1, all);
        }
    }

    private void readForms(Again x, Model m, int n, boolean choices) {
        for (int i = 0; i < n; i++) {
            String text = text(choices);
            int want = due(text, m.forms.size(), m.forms);
            T.due("form of '" + text + "'", x.read(text), want);
        }
    }

    private void tellThings(Again x, Model m) {
        int thing = random.nextInt(3);
        int day = Math.max(0, m.now - random.nextInt(3));
        int v = random.nextInt(9) - 3;
        T.due("see", x.step(t -> t.see(thing, day, v) ? 1 : 0), 1);
        m.told.get(thing).put(day, v);
        int asked = random.nextInt(12);
        T.due("seen", x.ask(t -> t.seen(thing, asked)), m.seen(thing, asked));
    }

    private void lives() {
        Again x = new Again();
        Model m = new Model();
        readForms(x, m, 5, true);
        for (int i = 0; i < 60 && !m.forms.isEmpty(); i++) {
            step(x, m);
        }
        stateOf(x, m);
    }

    private void step(Again x, Model m) {
        int life = random.nextInt(m.lives.size() + 1);
        int k = random.nextInt(3);
        int house = random.nextInt(3);
        switch (random.nextInt(8)) {
            case 0:
                int form = random.nextInt(m.forms.size());
                int other = (house + 1 + random.nextInt(2)) % 3;
                if (m.lives.size() < 40) {
                    T.due("begin", x.step(t -> t.begin(form, house, other)), m.begin(form, house, other));
                }
                break;
            case 1:
                T.due("day", x.step(t -> t.day()), m.day());
                break;
            case 2:
            case 3:
                tellThings(x, m);
                break;
            case 4:
            case 5:
                int which = random.nextInt(2);
                T.due("choose", x.step(t -> t.choose(life, k, house, which)), m.decide(life, k, house, "or", which));
                break;
            case 6:
                T.due("take", x.step(t -> t.take(life, k, house)), m.decide(life, k, house, "anytime", 0));
                break;
            default:
                stateOf(x, m);
                break;
        }
    }

    private void stateOf(Again x, Model m) {
        for (int i = 0; i < m.lives.size(); i++) {
            standingOf(x, m, i);
        }
        T.due("PAYMENTS", x.ask(t -> t.count(3)), m.payments.size());
        for (int i = 0; i < m.payments.size() * 4; i++) {
            int k = i / 4;
            int what = i % 4;
            T.due("payment", x.ask(t -> t.payment(k, what)), m.payments.get(k)[what]);
        }
        long[] gets = new long[8];
        int day = random.nextInt(m.now + 2);
        List<long[]> gifts = m.net(day, gets);
        T.due("net", x.step(t -> t.net(day)), gifts.size());
        for (int i = 0; i < gifts.size() * 3; i++) {
            int k = i / 3;
            int what = i % 3;
            T.due("netted", x.ask(t -> t.netted(k, what)), gifts.get(k)[what]);
        }
        for (int i = 0; i < 8; i++) {
            int house = i;
            T.due("netted of a HOUSE", x.ask(t -> t.netted(0, 10 + house)), gets[house]);
        }
        T.due("LOST", x.ask(t -> t.count(7)), 0);
    }

    private static void standingOf(Again x, Model m, int i) {
        Model.Life life = m.lives.get(i);
        T.due("got", x.ask(t -> t.got(i)), life.got);
        T.due("stands", x.ask(t -> t.stands(i)), life.standing.size());
        for (int j = 0; j < life.standing.size(); j++) {
            int k = j;
            Model.Stood s = life.standing.get(k);
            boolean holds = s.node.is("or") || m.view().holds(s.node);
            long[] due = {life.form.flat().indexOf(s.node), Model.KINDS.indexOf(s.node.kind),
                life.sides[s.terms.chooser], s.terms.factor, s.terms.cap, s.terms.untils.size(), holds ? 1 : 0};
            for (int w = 0; w < due.length; w++) {
                int what = w;
                T.due("standing", x.ask(t -> t.standing(i, k, what)), due[what]);
            }
        }
    }

    private void worlds() {
        Again x = new Again();
        Model m = new Model();
        readForms(x, m, 3, true);
        int choosing = m.forms.size();
        readForms(x, m, 3, false);
        for (int i = 0; i < 4; i++) {
            tellThings(x, m);
            T.due("day", x.step(t -> t.day()), m.day());
        }
        setWays(x, m);
        int n = 1 + random.nextInt(4);
        for (int i = 0; i < m.forms.size(); i++) {
            worldsOf(x, m, i, n);
        }
        for (int i = choosing; i < m.forms.size(); i++) {
            for (int j = choosing; j < m.forms.size(); j++) {
                int a = i;
                int b = j;
                T.due("parted", x.ask(t -> t.parted(a, b, n)), m.parted(m.forms.get(a), m.forms.get(b), n));
            }
        }
    }

    private static void worldsOf(Again x, Model m, int i, int n) {
        Model.Node form = m.forms.get(i);
        for (int w = 0; w < 3; w++) {
            int what = w;
            long want = m.worth(form, Model.firstTerms(), m.view(), n, what);
            T.due("worth of " + form.text(), x.ask(t -> t.worth(i, n, what)), want);
        }
        T.due("all WEIGHTS", x.ask(t -> t.worth(i, n, 3)), m.power(n));
        List<Model.Node> all = form.flat();
        List<Model.Node> found = m.comeTo(form, n);
        for (int word = 0; word < all.size(); word++) {
            int k = word;
            int want = found.contains(all.get(k)) ? 1 : 0;
            T.due("comeTo " + k + " of " + form.text(), x.ask(t -> t.comeTo(i, n, k)), want);
        }
    }

    private void setWays(Again x, Model m) {
        int ways = 1 + random.nextInt(3);
        T.due("ways", x.step(t -> t.ways(ways) ? 1 : 0), 1);
        m.weights = new int[ways];
        m.adds = new long[ways][6];
        for (int i = 0; i < ways; i++) {
            int way = i;
            m.weights[way] = 1 + random.nextInt(4);
            T.due("weight", x.step(t -> t.weight(way, m.weights[way]) ? 1 : 0), 1);
            for (int j = 0; j < 3; j++) {
                int thing = j;
                m.adds[way][thing] = random.nextInt(5) - 2;
                T.due("adds", x.step(t -> t.adds(way, thing, (int) m.adds[way][thing]) ? 1 : 0), 1);
            }
        }
    }
}
