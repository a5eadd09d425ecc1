import java.io.ByteArrayOutputStream;
import java.io.IOException;
import java.io.PrintStream;
import java.lang.reflect.Method;
import java.lang.reflect.Modifier;
import java.nio.charset.StandardCharsets;
import java.nio.file.Files;
import java.nio.file.Path;

/** README.md leaves out nothing of the face, and its example is the one that is there and prints what stands in it. */
public final class ReadmeTest {
    public static void main(String[] args) throws IOException {
        String readme = Files.readString(Path.of("README.md"));
        String example = Files.readString(Path.of("src/example/java/Turnstile.java"));
        Check.dueText("the example in README.md", example, block(readme, "java"));
        Check.dueText("what the example prints", printed(), block(readme, "text"));
        has(readme, "- `TestBench(int n, int k)`: ");
        has(readme, "- `NONE = -1`: ");
        for (Method m : TestBench.class.getDeclaredMethods()) {
            if (Modifier.isPublic(m.getModifiers())) {
                has(readme, "- `" + m.getReturnType().getName() + " " + m.getName() + "(");
                Check.due("the example uses " + m.getName(), 1, example.contains("bench." + m.getName() + "(") ? 1 : 0);
            }
        }
        has(readme, "bash .ci/run");
        Check.finish("ReadmeTest");
    }

    private static void has(String readme, String part) {
        Check.due("README.md has '" + part + "'", 1, readme.contains(part) ? 1 : 0);
    }

    /** The first block of its kind. */
    private static String block(String readme, String kind) {
        String opening = "```" + kind + "\n";
        int begin = readme.indexOf(opening);
        int end = readme.indexOf("```", begin + opening.length());
        return begin < 0 || end < 0 ? "" : readme.substring(begin + opening.length(), end);
    }

    private static String printed() {
        PrintStream usual = System.out;
        ByteArrayOutputStream caught = new ByteArrayOutputStream();
        System.setOut(new PrintStream(caught, true, StandardCharsets.UTF_8));
        Turnstile.main(new String[0]);
        System.setOut(usual);
        return caught.toString(StandardCharsets.UTF_8).replace(System.lineSeparator(), "\n");
    }
}
