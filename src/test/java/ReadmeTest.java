import java.io.File;
import java.io.IOException;
import java.lang.reflect.Method;
import java.lang.reflect.Modifier;
import java.nio.file.Files;
import java.nio.file.Path;
import java.util.List;
import java.util.regex.Matcher;
import java.util.regex.Pattern;

/** What README.md says of the class: the rows of its examples, the names of the calls and of the tests. */
public final class ReadmeTest {
    private static final Due T = new Due("ReadmeTest");
    private static final Pattern ROW = Pattern.compile("(x\\.(\\w+)\\((.*)\\)|read\\(x, \"(.*)\"\\));\\s+// (-?\\d+|true)(?::.*)?");

    private static DeedTongue x;

    public static void main(String[] args) throws IOException, ReflectiveOperationException {
        List<String> lines = Files.readAllLines(Path.of("README.md"));
        int rows = 0;
        for (String line : lines) {
            if (line.equals("DeedTongue x = new DeedTongue();")) {
                x = new DeedTongue();
            } else if (line.startsWith("x.") || line.startsWith("read(")) {
                row(line);
                rows++;
            }
        }
        T.due("there are rows", rows > 40, true);
        String page = String.join("\n", lines);
        namesCalls(page);
        namesTests(page);
        T.finish();
    }

    private static void row(String line) throws ReflectiveOperationException {
        Matcher m = ROW.matcher(line);
        T.due("the form of the row " + line, m.matches(), true);
        if (m.matches()) {
            long due = m.group(5).equals("true") ? 1 : Long.parseLong(m.group(5));
            T.due(line, m.group(4) == null ? call(m.group(2), m.group(3)) : Due.read(x, m.group(4)), due);
        }
    }

    private static long call(String name, String list) throws ReflectiveOperationException {
        String[] texts = list.isEmpty() ? new String[0] : list.split(", ");
        Object[] values = new Object[texts.length];
        for (int i = 0; i < values.length; i++) {
            values[i] = Integer.decode(texts[i]);
        }
        for (Method method : DeedTongue.class.getMethods()) {
            if (method.getName().equals(name)) {
                Object answer = method.invoke(x, values);
                return answer instanceof Boolean ? ((Boolean) answer ? 1 : 0) : ((Number) answer).longValue();
            }
        }
        throw new NoSuchMethodException(name);
    }

    private static void namesCalls(String page) {
        for (Method method : DeedTongue.class.getDeclaredMethods()) {
            if (Modifier.isPublic(method.getModifiers())) {
                T.due("it names " + method.getName(), page.contains("`" + method.getName() + "`"), true);
            }
        }
    }

    private static void namesTests(String page) {
        String[] files = new File("src/test/java").list();
        T.due("there are tests", files != null && files.length > 0, true);
        for (String file : files == null ? new String[0] : files) {
            String name = file.replace(".java", "");
            boolean named = page.contains(name.endsWith("Test") ? "| " + name + " |" : "`" + file + "`");
            T.due("it names " + file, named, true);
        }
    }
}
