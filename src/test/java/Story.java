import java.util.ArrayList;
import java.util.List;

/**
 * A run of calls that is told again on as many new objects as it takes: an object has 512 calls at most, and
 * to see that nothing has happened by a call takes more of them.
 */
final class Story {
    /** One call with its answer. */
    interface Call {
        long on(DeedTongue x);
    }

    // Some of what is asked takes two calls, so that not all of the 512 are planned for.
    private static final int CALLS = 490;

    private final List<Call> steps = new ArrayList<>();
    private final List<String> names = new ArrayList<>();
    private final List<List<Call>> scenes = new ArrayList<>();
    private final List<Long> before = new ArrayList<>();
    private int taped;

    Story then(Call step) {
        steps.add(step);
        return this;
    }

    Story times(int n, Call step) {
        for (int i = 0; i < n; i++) {
            then(step);
        }
        return this;
    }

    /** Puts a text behind the TAPE. */
    Story text(String text) {
        for (int at = 0; at < text.length(); at += 20) {
            int[] n = Due.numbers(text, at);
            then(x -> x.feed(n[0], n[1], n[2], n[3], n[4]));
        }
        taped += text.length();
        int end = taped;
        return then(x -> x.end(end));
    }

    Story form(String text) {
        text(text);
        taped = 0;
        return then(x -> x.form());
    }

    DeedTongue told() {
        DeedTongue x = new DeedTongue();
        for (Call step : steps) {
            step.on(x);
        }
        return x;
    }

    /** What a call answers behind the story. */
    long answer(Call call) {
        return call.on(told());
    }

    /** The first thing asked that is answered otherwise once a call was made; "nothing" without one. */
    String changedBy(Call call) {
        if (scenes.isEmpty()) {
            ask();
            before.addAll(answers(x -> 0));
        }
        List<Long> after = answers(call);
        for (int i = 0; i < after.size(); i++) {
            if (!after.get(i).equals(before.get(i))) {
                return names.get(i) + ": " + before.get(i) + " before, " + after.get(i) + " then";
            }
        }
        return after.size() == names.size() ? "nothing" : "the number of answers";
    }

    private List<Long> answers(Call call) {
        List<Long> all = new ArrayList<>();
        for (List<Call> scene : scenes) {
            DeedTongue x = told();
            call.on(x);
            for (Call ask : scene) {
                all.add(ask.on(x));
            }
        }
        return all;
    }

    private void ask() {
        scene();
        askCounts();
        askForms();
        askLives();
        askWorlds();
        askTape();
        askTold();
        askLater();
    }

    /** What is asked from here on is asked of a new object. */
    private void scene() {
        scenes.add(new ArrayList<>());
    }

    /** Asks, of a new object if this one has had its calls. */
    private void ask(String name, Call call) {
        if (steps.size() + 1 + scenes.get(scenes.size() - 1).size() >= CALLS) {
            scene();
        }
        names.add(name);
        scenes.get(scenes.size() - 1).add(call);
    }

    private void askCounts() {
        for (int what = 0; what < 8; what++) {
            int w = what;
            ask("count(" + w + ")", x -> x.count(w));
        }
        int[] days = {0, 1, 2, 3, 4, 398, 399};
        for (int thing = 0; thing < 6; thing++) {
            for (int day : days) {
                int t = thing;
                ask("seen(" + t + ", " + day + ")", x -> x.seen(t, day));
            }
        }
        askRow("octet", 60, i -> x -> x.octet(i));
        for (int k = 0; k < 8; k++) {
            int gift = k;
            askRow("netted of gift " + k, 3, what -> x -> x.netted(gift, what));
        }
        askRow("netted of HOUSES", 8, h -> x -> x.netted(0, 10 + h));
    }

    /** A call for each number. */
    private interface Row {
        Call at(int i);
    }

    private void askRow(String name, int n, Row row) {
        for (int i = 0; i < n; i++) {
            ask(name + " " + i, row.at(i));
        }
    }

    private void askForms() {
        askRow("words", 20, form -> x -> x.words(form));
        for (int form = 0; form < 20; form += form < 12 ? 1 : 7) {
            int f = form;
            for (int what = 0; what < 3; what++) {
                int w = what;
                askRow("word of FORM " + f + " what " + w, 13, k -> x -> x.word(f, k, w));
            }
            askRow("same as FORM " + f, 4, other -> x -> x.same(f, other));
        }
    }

    private void askLives() {
        askRow("stands", 40, life -> x -> x.stands(life));
        askRow("got", 40, life -> x -> x.got(life));
        for (int i = 0; i < 25; i++) {
            int life = i / 5;
            int k = i % 5;
            askRow("standing " + k + " of LIFE " + life + " what", 7, what -> x -> x.standing(life, k, what));
        }
        for (int i = 0; i < 12; i++) {
            int k = i;
            askRow("payment " + k + " what", 4, what -> x -> x.payment(k, what));
        }
    }

    private void askWorlds() {
        for (int i = 0; i < 24; i++) {
            int form = i / 2;
            int n = 1 + i % 2 * 3;
            askRow("worth of FORM " + form + " over " + n + " what", 4, what -> x -> x.worth(form, n, what));
            askRow("comeTo of FORM " + form + " over " + n + " WORD", 4, k -> x -> x.comeTo(form, n, k));
            askRow("parted of FORM " + form + " over " + n + " from", 4, other -> x -> x.parted(form, other, n));
        }
    }

    /** What is on the TAPE, as the FORM or the FAULT that it is. */
    private void askTape() {
        scene();
        ask("form()", x -> x.form());
        ask("told", x -> x.tell(x.count(1) - 1));
        askRow("octet of it", 50, i -> x -> x.octet(i));
    }

    /** The FORMS as they are told back. */
    private void askTold() {
        for (int form = 0; form < 20; form += form < 12 ? 1 : 7) {
            int f = form;
            scene();
            ask("tell(" + f + ")", x -> x.tell(f));
            askRow("octet of FORM " + f, 60, i -> x -> x.octet(i));
        }
    }

    /** What comes of it all later. */
    private void askLater() {
        scene();
        ask("begin", x -> x.begin(0, 0, 7));
        ask("day", x -> x.day());
        ask("payments by then", x -> x.count(3));
        askRow("stands then", 6, life -> x -> x.stands(life));
        askRow("got then", 6, life -> x -> x.got(life));
        ask("next day", x -> x.day());
        ask("payments by then", x -> x.count(3));
        scene();
        ask("net", x -> x.net(x.count(0)));
        askRow("netted then", 8, h -> x -> x.netted(0, 10 + h));
        for (int i = 0; i < 3; i++) {
            int life = i;
            askRow("choose of LIFE " + life, 3, k -> x -> x.choose(life, k, x.standing(life, k, 2) & 7, 1));
            askRow("take of LIFE " + life, 3, k -> x -> x.take(life, k, x.standing(life, k, 2) & 7));
        }
        askRow("got of it", 3, life -> x -> x.got(life));
        ask("see", x -> x.see(0, 0, 77) ? 1 : 0);
        askRow("seen then", 5, day -> x -> x.seen(0, day));
    }
}
