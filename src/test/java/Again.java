import java.util.ArrayList;
import java.util.List;

/**
 * An object for more calls than the 512 that the document promises: what changed it is told again to a new one
 * as often as the calls run out.
 */
final class Again {
    private static final int CALLS = 512;

    private final List<Story.Call> steps = new ArrayList<>();
    private DeedTongue x = new DeedTongue();
    private int calls;

    /** A call that may change something. */
    long step(Story.Call call) {
        long answer = ask(call);
        steps.add(call);
        return answer;
    }

    /** A call that changes nothing. */
    long ask(Story.Call call) {
        if (calls >= CALLS) {
            renew();
        }
        calls++;
        return call.on(x);
    }

    private void renew() {
        if (steps.size() >= CALLS) {
            throw new IllegalStateException("more than 512 calls that change something");
        }
        x = new DeedTongue();
        for (Story.Call step : steps) {
            step.on(x);
        }
        calls = steps.size();
    }

    /** Reads a text; the TAPE is empty. */
    long read(String text) {
        for (int at = 0; at < text.length(); at += 20) {
            int[] n = Due.numbers(text, at);
            step(t -> t.feed(n[0], n[1], n[2], n[3], n[4]));
        }
        step(t -> t.end(text.length()));
        return step(t -> t.form());
    }

    String told(int form) {
        long size = step(t -> t.tell(form));
        StringBuilder text = new StringBuilder();
        for (int i = 0; i < size; i++) {
            int at = i;
            text.append((char) ask(t -> t.octet(at)));
        }
        return text.toString();
    }
}
