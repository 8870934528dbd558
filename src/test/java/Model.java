import java.util.ArrayList;
import java.util.Arrays;
import java.util.List;
import java.util.TreeMap;

/** The document once more, as trees and lists and without a thought of speed, to be compared with. */
final class Model {
    static final List<String> KINDS = Arrays.asList("nothing", "one", "give", "both", "or", "then", "when",
            "anytime", "until", "scale", "cap");

    /** A WORD with its DEEDS; TESTS and SUMS are kept as signs, one token each. */
    static final class Node {
        String kind;
        int n = -1;
        List<String> left = new ArrayList<>();
        String sign = "";
        List<String> right = new ArrayList<>();
        List<Node> deeds = new ArrayList<>();

        Node copy() {
            Node c = new Node();
            c.kind = kind;
            c.n = n;
            c.left = left;
            c.sign = sign;
            c.right = right;
            for (Node d : deeds) {
                c.deeds.add(d.copy());
            }
            return c;
        }

        boolean is(String name) {
            return kind.equals(name);
        }

        List<Node> flat() {
            List<Node> all = new ArrayList<>();
            all.add(this);
            for (Node d : deeds) {
                all.addAll(d.flat());
            }
            return all;
        }

        String text() {
            StringBuilder b = new StringBuilder(kind);
            if (n >= 0) {
                b.append(' ').append(n);
            }
            if (!left.isEmpty()) {
                b.append(' ').append(String.join("", left)).append(sign).append(String.join("", right)).append(':');
            }
            if (deeds.size() == 2) {
                b.append('(').append(deeds.get(0).text()).append(',').append(deeds.get(1).text()).append(')');
            } else if (deeds.size() == 1) {
                b.append(left.isEmpty() ? " " : "").append(deeds.get(0).text());
            }
            return b.toString();
        }
    }

    /** What stops the reading of a text. */
    static final class Fault extends RuntimeException {
        private static final long serialVersionUID = 1L;
        final int number;

        Fault(int place, int kind) {
            super("fault");
            number = 1 + 8 * place + kind;
        }
    }

    /** Reads tokens, each with its place. */
    static final class Parser {
        final String text;
        int at;
        int words;
        int values;
        int tokenAt;

        Parser(String text) {
            this.text = text;
        }

        static Node parse(String text) {
            Parser p = new Parser(text);
            Node node = p.deed(0);
            if (!p.token().isEmpty()) {
                throw new Fault(p.tokenAt, 0);
            }
            return node;
        }

        /** The next token; it is taken. */
        String token() {
            while (at < text.length() && text.charAt(at) == ' ') {
                at++;
            }
            tokenAt = at;
            if (at == text.length()) {
                return "";
            }
            String rest = text.substring(at);
            String t = run(rest, 'a', 'z');
            if (t.isEmpty()) {
                t = run(rest, '0', '9');
            }
            if (t.isEmpty()) {
                t = rest.startsWith("<=") || rest.startsWith(">=") ? rest.substring(0, 2) : rest.substring(0, 1);
            }
            at += t.length();
            return t;
        }

        static String run(String rest, char low, char high) {
            int i = 0;
            while (i < rest.length() && rest.charAt(i) >= low && rest.charAt(i) <= high) {
                i++;
            }
            return rest.substring(0, i);
        }

        void expect(String want) {
            if (!token().equals(want)) {
                throw new Fault(tokenAt, 0);
            }
        }

        Node deed(int within) {
            Node node = new Node();
            node.kind = token();
            if (!KINDS.contains(node.kind)) {
                throw new Fault(tokenAt, 0);
            }
            if (within == 12) {
                throw new Fault(tokenAt, 2);
            }
            if (++words == 41) {
                throw new Fault(tokenAt, 3);
            }
            String k = node.kind;
            if (k.equals("then") || k.equals("cap")) {
                node.n = number(token());
            }
            if (k.equals("scale") || k.equals("when") || k.equals("anytime") || k.equals("until")) {
                String behind = sum(node.left);
                if (!k.equals("scale")) {
                    if (!Arrays.asList("<", "<=", "=", ">=", ">").contains(behind)) {
                        throw new Fault(tokenAt, 0);
                    }
                    node.sign = behind;
                    behind = sum(node.right);
                }
                if (!behind.equals(":")) {
                    throw new Fault(tokenAt, 0);
                }
            }
            if (k.equals("both") || k.equals("or") || k.equals("then")) {
                expect("(");
                node.deeds.add(deed(within + 1));
                expect(",");
                node.deeds.add(deed(within + 1));
                expect(")");
            } else if (!k.equals("one") && !k.equals("nothing")) {
                node.deeds.add(deed(within + 1));
            }
            return node;
        }

        int number(String t) {
            if (t.isEmpty() || !Character.isDigit(t.charAt(0))) {
                throw new Fault(tokenAt, 0);
            }
            if (t.length() > 5) {
                throw new Fault(tokenAt, 1);
            }
            return Integer.parseInt(t);
        }

        /** Puts a SUM's signs into the list; answers the token behind it. */
        String sum(List<String> signs) {
            while (true) {
                String t = token();
                int place = tokenAt;
                boolean tooMany = ++values == 41;
                if (t.equals("s")) {
                    if (tooMany) {
                        throw new Fault(place, 4);
                    }
                    char c = at < text.length() ? text.charAt(at) : 'x';
                    if (c < '0' || c > '5') {
                        throw new Fault(at, 0);
                    }
                    at++;
                    t = "s" + c;
                } else if (!t.equals("day")) {
                    t = Integer.toString(number(t));
                }
                if (tooMany) {
                    throw new Fault(place, 4);
                }
                signs.add(t);
                String joint = token();
                if (!joint.equals("+") && !joint.equals("-") && !joint.equals("*")) {
                    return joint;
                }
                signs.add(joint);
            }
        }
    }

    /** A DAY and its THINGS. */
    static final class View {
        final long day;
        final long[] things;

        View(long day, long[] things) {
            this.day = day;
            this.things = things;
        }

        long value(String t) {
            if (t.equals("day")) {
                return day;
            }
            return t.charAt(0) == 's' ? things[t.charAt(1) - '0'] : Long.parseLong(t);
        }

        /** Products first, then what is left from the left. */
        long sum(List<String> signs) {
            List<Long> terms = new ArrayList<>();
            List<String> joints = new ArrayList<>();
            terms.add(value(signs.get(0)));
            for (int i = 1; i < signs.size(); i += 2) {
                long v = value(signs.get(i + 1));
                if (signs.get(i).equals("*")) {
                    terms.set(terms.size() - 1, terms.get(terms.size() - 1) * v);
                } else {
                    joints.add(signs.get(i));
                    terms.add(v);
                }
            }
            long all = terms.get(0);
            for (int i = 0; i < joints.size(); i++) {
                all = joints.get(i).equals("+") ? all + terms.get(i + 1) : all - terms.get(i + 1);
            }
            return all;
        }

        boolean holds(Node node) {
            long a = sum(node.left);
            long b = sum(node.right);
            switch (node.sign) {
                case "<":
                    return a < b;
                case "<=":
                    return a <= b;
                case "=":
                    return a == b;
                case ">=":
                    return a >= b;
                default:
                    return a > b;
            }
        }
    }

    /** How a WORD is ACQUIRED. */
    static final class Terms {
        final long factor;
        final long cap;
        final int chooser;
        final List<Node> untils;

        Terms(long factor, long cap, int chooser, List<Node> untils) {
            this.factor = factor;
            this.cap = cap;
            this.chooser = chooser;
            this.untils = untils;
        }

        boolean lapsed(View v) {
            for (Node u : untils) {
                if (v.holds(u)) {
                    return true;
                }
            }
            return false;
        }

        long coins() {
            return cap < 0 ? factor : Math.max(-cap, Math.min(cap, factor));
        }

        /** The terms on which the DEED of a WORD is ACQUIRED. */
        Terms inner(Node node, View v) {
            switch (node.kind) {
                case "give":
                    return new Terms(-factor, cap, 1 - chooser, untils);
                case "until":
                    List<Node> more = new ArrayList<>(untils);
                    more.add(node);
                    return new Terms(factor, cap, chooser, more);
                case "scale":
                    long f = factor * v.sum(node.left);
                    return new Terms(Math.max(-1000000, Math.min(1000000, f)), cap, chooser, untils);
                case "cap":
                    return new Terms(factor, cap < 0 ? node.n : Math.min(cap, node.n), chooser, untils);
                default:
                    return this;
            }
        }
    }

    static Terms firstTerms() {
        return new Terms(1, -1, 0, new ArrayList<>());
    }

    static final class Stood {
        final Node node;
        final Terms terms;

        Stood(Node node, Terms terms) {
            this.node = node;
            this.terms = terms;
        }
    }

    static final class Life {
        Node form;
        int[] sides;
        List<Stood> standing = new ArrayList<>();
        long got;
    }

    int now;
    final List<TreeMap<Integer, Integer>> told = new ArrayList<>();
    final List<Node> forms = new ArrayList<>();
    final List<Life> lives = new ArrayList<>();
    final List<int[]> payments = new ArrayList<>();
    int[] weights = {1};
    long[][] adds = new long[1][6];

    Model() {
        for (int i = 0; i < 6; i++) {
            told.add(new TreeMap<>());
        }
    }

    int seen(int thing, int day) {
        return told.get(thing).headMap(day, true).isEmpty() ? 0 : told.get(thing).floorEntry(day).getValue();
    }

    View view() {
        long[] things = new long[6];
        for (int i = 0; i < 6; i++) {
            things[i] = seen(i, now);
        }
        return new View(now, things);
    }

    int begin(int form, int first, int second) {
        Life life = new Life();
        life.form = forms.get(form);
        life.sides = new int[] {first, second};
        lives.add(life);
        acquire(life, life.form, firstTerms());
        return lives.size() - 1;
    }

    void acquire(Life life, Node node, Terms terms) {
        View v = view();
        if (terms.lapsed(v)) {
            return;
        }
        Terms inner = terms.inner(node, v);
        switch (node.kind) {
            case "nothing":
                return;
            case "one":
                if (terms.coins() != 0) {
                    life.got += terms.coins();
                    payments.add(new int[] {lives.indexOf(life), now, (int) terms.coins(), life.form.flat().indexOf(node)});
                }
                return;
            case "both":
                acquire(life, node.deeds.get(0), inner);
                acquire(life, node.deeds.get(1), inner);
                return;
            case "then":
                acquire(life, node.deeds.get(now < node.n ? 0 : 1), inner);
                return;
            case "or":
            case "anytime":
                life.standing.add(new Stood(node, terms));
                return;
            case "when":
                if (!v.holds(node)) {
                    life.standing.add(new Stood(node, terms));
                    return;
                }
                break;
            default:
                break;
        }
        acquire(life, node.deeds.get(0), inner);
    }

    int day() {
        int before = payments.size();
        now++;
        View v = view();
        for (Life life : lives) {
            List<Stood> stood = life.standing;
            List<Stood> stays = new ArrayList<>();
            life.standing = new ArrayList<>();
            for (Stood s : stood) {
                if (s.terms.lapsed(v)) {
                    continue;
                }
                if (s.node.is("or") || s.node.is("when") && v.holds(s.node)) {
                    acquire(life, s.node.deeds.get(0), s.terms);
                } else {
                    stays.add(s);
                }
            }
            stays.addAll(life.standing);
            life.standing = stays;
        }
        return payments.size() - before;
    }

    int decide(int life, int k, int house, String kind, int which) {
        if (life < 0 || life >= lives.size() || k < 0 || k >= lives.get(life).standing.size()) {
            return -1;
        }
        Life l = lives.get(life);
        Stood s = l.standing.get(k);
        if (!s.node.is(kind) || l.sides[s.terms.chooser] != house || s.terms.lapsed(view())) {
            return -1;
        }
        if (kind.equals("anytime") && !view().holds(s.node)) {
            return -1;
        }
        int before = payments.size();
        l.standing.remove(k);
        acquire(l, s.node.deeds.get(which), s.terms);
        return payments.size() - before;
    }

    View next(View v, int way) {
        long[] things = v.things.clone();
        for (int i = 0; i < 6; i++) {
            things[i] += adds[way][i];
        }
        return new View(v.day + 1, things);
    }

    long power(int m) {
        long all = 0;
        for (int w : weights) {
            all += w;
        }
        return m == 0 ? 1 : all * power(m - 1);
    }

    long worth(Node node, Terms terms, View v, int m, int what) {
        if (terms.lapsed(v)) {
            return 0;
        }
        Terms inner = terms.inner(node, v);
        switch (node.kind) {
            case "nothing":
                return 0;
            case "one":
                return terms.coins() * (what == 0 ? power(m) : 1);
            case "both":
                return worth(node.deeds.get(0), inner, v, m, what) + worth(node.deeds.get(1), inner, v, m, what);
            case "or":
                return better(terms, worth(node.deeds.get(0), inner, v, m, what),
                        worth(node.deeds.get(1), inner, v, m, what));
            case "then":
                return worth(node.deeds.get(v.day < node.n ? 0 : 1), inner, v, m, what);
            case "when":
                return v.holds(node) ? worth(node.deeds.get(0), inner, v, m, what) : waits(node, terms, v, m, what);
            case "anytime":
                long w = waits(node, terms, v, m, what);
                return v.holds(node) ? better(terms, w, worth(node.deeds.get(0), inner, v, m, what)) : w;
            default:
                return worth(node.deeds.get(0), inner, v, m, what);
        }
    }

    static long better(Terms terms, long a, long b) {
        return terms.chooser == 0 ? Math.max(a, b) : Math.min(a, b);
    }

    long waits(Node node, Terms terms, View v, int m, int what) {
        if (m == 0) {
            return 0;
        }
        List<Long> all = new ArrayList<>();
        long mean = 0;
        for (int way = 0; way < weights.length; way++) {
            long w = worth(node, terms, next(v, way), m - 1, what);
            mean += weights[way] * w;
            all.add(w);
        }
        all.sort(null);
        return what == 0 ? mean : what == 1 ? all.get(0) : all.get(all.size() - 1);
    }

    /** All WORLDS of n DAYS in order, each as its WAYS. */
    List<int[]> worlds(int n) {
        List<int[]> all = new ArrayList<>();
        all.add(new int[0]);
        for (int i = 0; i < n; i++) {
            List<int[]> longer = new ArrayList<>();
            for (int[] w : all) {
                for (int way = 0; way < weights.length; way++) {
                    int[] l = Arrays.copyOf(w, w.length + 1);
                    l[w.length] = way;
                    longer.add(l);
                }
            }
            all = longer;
        }
        return all;
    }

    List<View> path(int[] world) {
        List<View> path = new ArrayList<>();
        path.add(view());
        for (int way : world) {
            path.add(next(path.get(path.size() - 1), way));
        }
        return path;
    }

    /** All WORDS that are COME TO, by every WORLD and every choice. */
    List<Node> comeTo(Node form, int n) {
        List<Node> found = new ArrayList<>();
        for (int[] world : worlds(n)) {
            visit(form, firstTerms(), path(world), 0, found);
        }
        return found;
    }

    void visit(Node node, Terms terms, List<View> path, int at, List<Node> found) {
        View v = path.get(at);
        if (terms.lapsed(v)) {
            return;
        }
        found.add(node);
        if (node.is("when") || node.is("anytime")) {
            for (int t = at; t < path.size() && !terms.lapsed(path.get(t)); t++) {
                if (path.get(t).holds(node)) {
                    visit(node.deeds.get(0), terms, path, t, found);
                    if (node.is("when")) {
                        return;
                    }
                }
            }
            return;
        }
        for (int i = 0; i < node.deeds.size(); i++) {
            if (!node.is("then") || i == (v.day < node.n ? 0 : 1)) {
                visit(node.deeds.get(i), terms.inner(node, v), path, at, found);
            }
        }
    }

    int parted(Node a, Node b, int n) {
        for (int[] world : worlds(n)) {
            List<View> path = path(world);
            if (!Arrays.equals(paid(a, path), paid(b, path))) {
                StringBuilder digits = new StringBuilder();
                for (int way : world) {
                    digits.append(way);
                }
                return Integer.parseInt(digits.toString());
            }
        }
        return -2;
    }

    long[] paid(Node node, List<View> path) {
        long[] sums = new long[path.size()];
        pay(node, firstTerms(), path, 0, sums);
        return sums;
    }

    void pay(Node node, Terms terms, List<View> path, int at, long[] sums) {
        View v = path.get(at);
        if (terms.lapsed(v)) {
            return;
        }
        if (node.is("one")) {
            sums[at] += terms.coins();
        }
        if (node.is("when") && !v.holds(node)) {
            if (at + 1 < path.size()) {
                pay(node, terms, path, at + 1, sums);
            }
            return;
        }
        for (int i = 0; i < node.deeds.size(); i++) {
            if (!node.is("then") || i == (v.day < node.n ? 0 : 1)) {
                pay(node.deeds.get(i), terms.inner(node, v), path, at, sums);
            }
        }
    }

    /** Applies one LAW somewhere, the innermost first, until none can be. */
    static Node shorter(Node node) {
        Node c = node.copy();
        for (int i = 0; i < c.deeds.size(); i++) {
            c.deeds.set(i, shorter(c.deeds.get(i)));
        }
        Node r = law(c);
        return r == c ? c : shorter(r);
    }

    static Node law(Node c) {
        Node first = c.deeds.isEmpty() ? null : c.deeds.get(0);
        if (first == null) {
            return c;
        }
        if (c.deeds.size() == 1 && first.is("nothing")) {
            return first;
        }
        if (c.is("scale") && c.left.equals(Arrays.asList("0"))) {
            Node nothing = new Node();
            nothing.kind = "nothing";
            return nothing;
        }
        if (c.is("scale") && c.left.equals(Arrays.asList("1"))) {
            return first;
        }
        if (c.is("give") && first.is("give")) {
            return first.deeds.get(0);
        }
        if (c.is("both") && (first.is("nothing") || c.deeds.get(1).is("nothing"))) {
            return c.deeds.get(first.is("nothing") ? 1 : 0);
        }
        if ((c.is("or") || c.is("then")) && first.text().equals(c.deeds.get(1).text())) {
            return first;
        }
        if (c.is("cap") && first.is("cap")) {
            Node cap = first.copy();
            cap.n = Math.min(c.n, first.n);
            return cap;
        }
        return c;
    }

    /** A text that is the same for whatever way the DEEDS of its boths stand. */
    static String turned(Node node) {
        Node c = node.copy();
        List<String> parts = new ArrayList<>();
        for (Node d : c.deeds) {
            parts.add(turned(d));
        }
        if (c.is("both")) {
            parts.sort(null);
        }
        c.deeds.clear();
        return c.text() + parts;
    }

    /** The gifts of a DAY, as giver, taker, amount. */
    List<long[]> net(int day, long[] gets) {
        for (int[] p : payments) {
            if (p[1] == day) {
                gets[lives.get(p[0]).sides[0]] += p[2];
                gets[lives.get(p[0]).sides[1]] -= p[2];
            }
        }
        long[] rest = gets.clone();
        List<long[]> gifts = new ArrayList<>();
        int giver = 0;
        int taker = 0;
        while (giver < 8 && taker < 8) {
            if (rest[giver] >= 0) {
                giver++;
            } else if (rest[taker] <= 0) {
                taker++;
            } else {
                long amount = Math.min(-rest[giver], rest[taker]);
                rest[giver] += amount;
                rest[taker] -= amount;
                gifts.add(new long[] {giver, taker, amount});
            }
        }
        return gifts;
    }
}
