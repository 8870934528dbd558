import java.io.IOException;
import java.nio.file.Files;
import java.nio.file.Path;
import java.util.ArrayList;
import java.util.List;
import java.util.regex.Matcher;
import java.util.regex.Pattern;

/** What of LANGUAGE.md can be seen from the program's text. */
public final class LanguageTest {
    private static final Due T = new Due("LanguageTest");
    private static final String[] FORBIDDEN = {"throw", "try", "catch", "finally", "synchronized", "assert", "import",
        "package", "->", "::", "Exact", "System", "Object", "hashCode", "toString", "double", "float", "protected",
        "goto", "Thread", "Random", "Class", "yield", "var"};

    public static void main(String[] args) throws IOException {
        String source = Files.readString(Path.of("src/main/java/DeedTongue.java"));
        String code = withoutComments(source);
        for (String word : FORBIDDEN) {
            String seek = Character.isLetter(word.charAt(0)) ? "\\b" + word + "\\b" : Pattern.quote(word);
            T.due("'" + word + "' in the program", Pattern.compile(seek).matcher(code).find(), false);
        }
        T.due("signs above 127", source.chars().anyMatch(c -> c > 126), false);
        T.due("classes", count(code, "\\bclass\\s+\\w+"), 12);
        T.due("texts joined by +", count(code, "\"\\s*\\+|\\+\\s*\""), 0);
        T.due("loops without an end", count(code, "while \\(true\\)|for \\(;"), 0);
        T.due("static fields that are not final", count(code, "\\bstatic\\s+(?!final|boolean \\w+\\(|int \\w+\\(|long \\w+\\(|void \\w+\\()"), 0);
        methods(source);
        T.finish();
    }

    private static String withoutComments(String source) {
        return source.replaceAll("(?s)/\\*.*?\\*/", " ").replaceAll("//[^\n]*", " ");
    }

    private static int count(String code, String seek) {
        Matcher m = Pattern.compile(seek).matcher(code);
        int n = 0;
        while (m.find()) {
            n++;
        }
        return n;
    }

    /** Methods of at most 60 lines and 7 parameters; no method but the public ones bears a public one's name. */
    private static void methods(String source) {
        Pattern head = Pattern.compile("^( {4}| {8})((?:public |private |static )*)[\\w\\[\\]]+ (\\w+)\\((.*)\\) \\{$");
        List<String> names = new ArrayList<>();
        List<String> open = new ArrayList<>();
        String[] lines = source.split("\n");
        for (int i = 0; i < lines.length; i++) {
            Matcher m = head.matcher(lines[i]);
            if (!m.matches()) {
                continue;
            }
            (m.group(2).contains("public") ? open : names).add(m.group(3));
            int end = i;
            while (end < lines.length && !lines[end].equals(m.group(1) + "}")) {
                end++;
            }
            T.due(m.group(3) + " is short", end - i <= 60, true);
            T.due(m.group(3) + " has few parameters", m.group(4).split(",").length <= 7, true);
        }
        T.due("public methods", open.size(), 28);
        T.due("methods were found", names.size() > 80, true);
        names.retainAll(open);
        T.due("names of public methods", names.toString(), "[]");
    }
}
