import java.io.IOException;
import java.nio.file.Files;
import java.nio.file.Path;

/** What the tests share: answers that are due, and texts put on the TAPE. */
final class Due {
    private static final Path DOCUMENT = Path.of("../shared/DOC.md");

    private final String name;
    private String document = "";
    private String sentence = "";
    private int asked;
    private int wrong;

    Due(String name) {
        this.name = name;
    }

    /** The next answers are about these words of the document, which have to stand there as they are. */
    void says(String words) {
        sentence = " [" + words + "]";
        if (document.isEmpty()) {
            document = readDocument();
        }
        asked++;
        if (!document.contains(words)) {
            wrong++;
            System.out.println(name + ": the document does not say '" + words + "'");
        }
    }

    private static String readDocument() {
        try {
            return Files.readString(DOCUMENT);
        } catch (IOException e) {
            return "no document: " + e;
        }
    }

    void due(String call, long got, long want) {
        asked++;
        if (got != want) {
            wrong++;
            System.out.println(name + ": " + call + " answered " + got + ", due is " + want + sentence);
        }
    }

    void due(String call, boolean got, boolean want) {
        due(call, got ? 1L : 0L, want ? 1L : 0L);
    }

    void due(String call, String got, String want) {
        asked++;
        if (!got.equals(want)) {
            wrong++;
            System.out.println(name + ": " + call + " answered '" + got + "', due is '" + want + "'" + sentence);
        }
    }

    /** Tells how it went, and ends the program with 1 if an answer was wrong. */
    void finish() {
        System.out.println(name + ": " + asked + " answers, " + wrong + " not as due");
        if (wrong != 0 || asked == 0) {
            System.exit(1);
        }
    }

    /** Puts a text behind the TAPE, whose bytes so far stay. */
    static void put(DeedTongue x, String text) {
        int before = x.count(4);
        for (int at = 0; at < text.length(); at += 20) {
            int[] n = numbers(text, at);
            x.feed(n[0], n[1], n[2], n[3], n[4]);
        }
        x.end(before + text.length());
    }

    /** Twenty bytes of a text as five numbers, with 0s behind its end. */
    static int[] numbers(String text, int at) {
        return new int[] {four(text, at), four(text, at + 4), four(text, at + 8), four(text, at + 12), four(text, at + 16)};
    }

    private static int four(String text, int at) {
        int n = 0;
        for (int i = at; i < at + 4; i++) {
            n = n << 8 | (i < text.length() ? text.charAt(i) & 255 : 0);
        }
        return n;
    }

    static int read(DeedTongue x, String text) {
        put(x, text);
        return x.form();
    }

    /** What form() answers of a text on a new object. */
    static int answer(String text) {
        return read(new DeedTongue(), text);
    }

    /** The answer of form() for a FAULT. */
    static int fault(int place, int kind) {
        return -2 - (1 + 8 * place + kind);
    }

    static String told(DeedTongue x, int form) {
        int n = x.tell(form);
        StringBuilder text = new StringBuilder();
        for (int i = 0; i < n; i++) {
            text.append((char) x.octet(i));
        }
        return text.toString();
    }

    /** A both of so many DEEDS, no deeper than it has to be. */
    static String bush(int n, String deed) {
        return n == 1 ? deed : "both(" + bush(n / 2, deed) + "," + bush(n - n / 2, deed) + ")";
    }

    /** A text so many times, one behind the other. */
    static String times(int n, String text) {
        return text.repeat(n);
    }
}
