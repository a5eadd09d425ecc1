import java.io.IOException;
import java.lang.reflect.Constructor;
import java.lang.reflect.Field;
import java.lang.reflect.Method;
import java.lang.reflect.Modifier;
import java.nio.file.Files;
import java.nio.file.Path;
import java.util.Arrays;
import java.util.Set;
import java.util.TreeSet;
import java.util.stream.Collectors;

/** The public face is that of the document, with nothing beside it, and the source keeps to what the language rules show. */
public final class FaceTest {
    private static final String ISE = "IllegalStateException";
    private static final String IAE = "IllegalArgumentException";
    private static final String[] FACE = {
        "void edge(int,int,int,int) " + IAE + " " + ISE,
        "void start(int) " + IAE + " " + ISE,
        "int seal() " + ISE,
        "int minimal(int)",
        "int apart(int,int) " + IAE + " " + ISE,
        "int word(int)",
        "int family(int,int)",
        "int own(int,int)",
        "int suite(int,int) " + IAE + " " + ISE + " UnsupportedOperationException",
        "int test(int,int,boolean)",
        "void resize(int) " + IAE + " " + ISE,
        "void change(int,int,int,int) " + ISE + " " + IAE,
        "int run() " + ISE,
        "int failed()",
        "int begin(int) " + IAE,
        "int give(int) " + ISE + " " + IAE,
        "int same() " + ISE,
        "int covered()",
        "int look(int)",
    };

    public static void main(String[] args) throws IOException {
        Check.due("NONE", -1, TestBench.NONE);
        int modifiers = TestBench.class.getModifiers();
        Check.due("the class is public and final", 1, Modifier.isPublic(modifiers) && Modifier.isFinal(modifiers) ? 1 : 0);
        methods();
        fields();
        constructors();
        nested();
        source();
        Check.finish("FaceTest");
    }

    private static void methods() {
        Set<String> want = new TreeSet<>(Arrays.asList(FACE));
        Set<String> names = want.stream().map(f -> f.replaceAll("^\\w+ (\\w+)\\(.*", "$1")).collect(Collectors.toSet());
        Set<String> got = new TreeSet<>();
        for (Method m : TestBench.class.getDeclaredMethods()) {
            if (Modifier.isPrivate(m.getModifiers())) {
                Check.due("private method with a public name: " + m, 0, names.contains(m.getName()) ? 1 : 0);
            } else if (!m.isSynthetic()) {
                got.add(describe(m));
            }
        }
        sameSet("method", want, got);
        for (Class<?> c : TestBench.class.getDeclaredClasses()) {
            for (Method m : c.getDeclaredMethods()) {
                Check.due("inner method with a public name: " + m, 0, names.contains(m.getName()) ? 1 : 0);
                Check.due("parameters of " + m, 1, m.getParameterCount() <= 7 ? 1 : 0);
            }
        }
    }

    private static String describe(Method m) {
        String parameters = Arrays.stream(m.getParameterTypes()).map(Class::getName).collect(Collectors.joining(","));
        String thrown = Arrays.stream(m.getExceptionTypes()).map(t -> " " + t.getSimpleName()).collect(Collectors.joining());
        return m.getReturnType().getName() + " " + m.getName() + "(" + parameters + ")" + thrown;
    }

    private static void fields() {
        for (Field f : TestBench.class.getDeclaredFields()) {
            int modifiers = f.getModifiers();
            boolean isNone = f.getName().equals("NONE") && modifiers == (Modifier.PUBLIC | Modifier.STATIC | Modifier.FINAL);
            Check.due("field " + f, 1, isNone || Modifier.isPrivate(modifiers) ? 1 : 0);
            Check.due("static field " + f, 1, !Modifier.isStatic(modifiers) || Modifier.isFinal(modifiers) ? 1 : 0);
        }
    }

    private static void constructors() {
        Constructor<?>[] made = TestBench.class.getDeclaredConstructors();
        Check.due("constructors", 1, made.length);
        Check.due("the constructor takes (int, int)", 1, Arrays.equals(made[0].getParameterTypes(), new Class<?>[] {int.class, int.class}) ? 1 : 0);
        Check.due("the constructor is public", 1, Modifier.isPublic(made[0].getModifiers()) ? 1 : 0);
        Check.due("the constructor throws nothing", 0, made[0].getExceptionTypes().length);
    }

    private static void nested() {
        Class<?>[] classes = TestBench.class.getDeclaredClasses();
        Check.due("at most twelve classes", 1, classes.length < 12 ? 1 : 0);
        for (Class<?> c : classes) {
            Check.due("static and not public: " + c, 1, Modifier.isStatic(c.getModifiers()) && !Modifier.isPublic(c.getModifiers()) ? 1 : 0);
            for (Field f : c.getDeclaredFields()) {
                Check.due("static field " + f, 1, !Modifier.isStatic(f.getModifiers()) || Modifier.isFinal(f.getModifiers()) ? 1 : 0);
            }
        }
    }

    private static void source() throws IOException {
        String text = Files.readString(Path.of("src/main/java/TestBench.java"));
        String code = text.replaceAll("(?s)/\\*.*?\\*/", "").replaceAll("//[^\n]*", "");
        for (String banned : new String[] {"import ", "package ", "->", "::", "try ", "catch", "finally", "synchronized", "assert ", "\"", "NaN", "System.out"}) {
            Check.due("the source has '" + banned + "'", 0, code.contains(banned) ? 1 : 0);
        }
    }

    private static void sameSet(String what, Set<String> want, Set<String> got) {
        for (String one : want) {
            Check.due(what + " is there: " + one, 1, got.contains(one) ? 1 : 0);
        }
        for (String one : got) {
            Check.due(what + " is in the document: " + one, 1, want.contains(one) ? 1 : 0);
        }
    }
}
