import java.lang.reflect.Constructor;
import java.lang.reflect.Field;
import java.lang.reflect.Method;
import java.lang.reflect.Modifier;
import java.util.Arrays;
import java.util.TreeSet;

/** The public face, with nothing beside it. */
public final class FaceTest {
    private static final String[] FACE = {
        "boolean see(int,int,int)", "int seen(int,int)", "int feed(int,int,int,int,int)", "int end(int)",
        "int form()", "int word(int,int,int)", "int words(int)", "int shorter(int)", "int same(int,int)",
        "int tell(int)", "int octet(int)", "int begin(int,int,int)", "int day()", "int stands(int)",
        "int standing(int,int,int)", "int choose(int,int,int,int)", "int take(int,int,int)",
        "int payment(int,int)", "long got(int)", "int net(int)", "long netted(int,int)", "boolean ways(int)",
        "boolean weight(int,int)", "boolean adds(int,int,int)", "long worth(int,int,int)",
        "int comeTo(int,int,int)", "int parted(int,int,int)", "int count(int)"};

    public static void main(String[] args) {
        Due t = new Due("FaceTest");
        t.due("NONE", DeedTongue.NONE, -1);
        t.due("modifiers", DeedTongue.class.getModifiers(), Modifier.PUBLIC | Modifier.FINAL);
        t.due("methods", methods().toString(), new TreeSet<>(Arrays.asList(FACE)).toString());
        t.due("constants", fields(), "NONE ");
        Constructor<?>[] made = DeedTongue.class.getDeclaredConstructors();
        t.due("constructors", made.length, 1);
        t.due("constructor's parameters", made[0].getParameterCount(), 0);
        t.due("constructor is public", Modifier.isPublic(made[0].getModifiers()), true);
        for (Class<?> inside : DeedTongue.class.getDeclaredClasses()) {
            t.due(inside.getName() + " is static", Modifier.isStatic(inside.getModifiers()), true);
            t.due(inside.getName() + " is public", Modifier.isPublic(inside.getModifiers()), false);
        }
        t.finish();
    }

    private static TreeSet<String> methods() {
        TreeSet<String> found = new TreeSet<>();
        for (Method m : DeedTongue.class.getDeclaredMethods()) {
            if (!Modifier.isPrivate(m.getModifiers()) && !m.isSynthetic()) {
                StringBuilder text = new StringBuilder();
                text.append(m.getReturnType().getName()).append(' ').append(m.getName()).append('(');
                for (Class<?> p : m.getParameterTypes()) {
                    text.append(text.charAt(text.length() - 1) == '(' ? "" : ",").append(p.getName());
                }
                found.add(text.append(')').toString());
            }
        }
        return found;
    }

    private static String fields() {
        StringBuilder text = new StringBuilder();
        for (Field f : DeedTongue.class.getDeclaredFields()) {
            if (!Modifier.isPrivate(f.getModifiers()) && !f.isSynthetic()) {
                text.append(f.getName()).append(' ');
            }
        }
        return text.toString();
    }
}
