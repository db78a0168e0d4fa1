import java.io.IOException;
import java.io.StringWriter;
import java.lang.reflect.Method;
import java.lang.reflect.Modifier;
import java.nio.charset.StandardCharsets;
import java.nio.file.Files;
import java.nio.file.Path;
import java.util.List;
import java.util.regex.Matcher;
import java.util.regex.Pattern;
import javax.tools.JavaCompiler;
import javax.tools.ToolProvider;

/** README.md names every method and constant, and each call of its example answers what stands behind it. */
public final class ReadmeTest {
    private static final Path FOLDER = Path.of("out", "readme");
    private static final Pattern EXAMPLE = Pattern.compile("```java\n(.*?)```", Pattern.DOTALL);
    private static final Pattern ANSWER = Pattern.compile("(?m)^(\\w+\\.\\w+\\(.*\\)); +// (-?\\d+|[A-Z_]+)\\b.*$");
    private static final int SHORTEST_EXAMPLE = 10;

    private final Due due = new Due("ReadmeTest");

    public static void main(String[] args) throws IOException, ReflectiveOperationException {
        ReadmeTest test = new ReadmeTest();
        String readme = Files.readString(Path.of("README.md"), StandardCharsets.UTF_8);
        test.namesTheFace(readme);
        test.runsTheExample(readme);
        test.due.close();
    }

    private void namesTheFace(String readme) throws IllegalAccessException {
        for (Method method : SnoopFilter.class.getDeclaredMethods()) {
            if (Modifier.isPublic(method.getModifiers())) {
                due.holds(method.getName() + " is told", readme.contains("| `" + method.getName() + "("));
            }
        }
        for (String name : List.of("UNKNOWN", "BAD_VALUE", "FULL", "NOT_POSSIBLE", "NONE")) {
            int number = constant(name);
            due.holds(name + " is told", readme.contains("| `" + name + "` | " + number + " | "));
        }
        due.holds("the command for all tests is told", readme.contains("    .ci/run\n"));
    }

    private static int constant(String name) throws IllegalAccessException {
        try {
            return SnoopFilter.class.getField(name).getInt(null);
        } catch (NoSuchFieldException none) {
            throw new IllegalStateException(none);
        }
    }

    private void runsTheExample(String readme) throws IOException, ReflectiveOperationException {
        Matcher example = EXAMPLE.matcher(readme);
        due.holds("there is an example", example.find());
        StringBuilder checked = new StringBuilder();
        Matcher answer = ANSWER.matcher(example.group(1));
        int answers = 0;
        while (answer.find()) {
            String want = answer.group(2).matches("-?\\d+") ? answer.group(2) : "SnoopFilter." + answer.group(2);
            String call = answer.group(1).replace("\\", "\\\\").replace("\"", "\\\"");
            answer.appendReplacement(checked, Matcher.quoteReplacement(
                    "if (" + answer.group(1) + " != " + want + ") { wrong += \"" + call + "; \"; }"));
            answers++;
        }
        answer.appendTail(checked);
        due.holds("it has answers", answers >= SHORTEST_EXAMPLE);
        String wrong = compiled("public class Example { public static String run() { String wrong = \"\";\n"
                + checked + "return wrong; } }");
        due.holds("the example's calls answer so, but for: " + wrong, wrong.isEmpty());
    }

    private static String compiled(String source) throws IOException, ReflectiveOperationException {
        Files.createDirectories(FOLDER);
        Path file = FOLDER.resolve("Example.java");
        Files.writeString(file, source, StandardCharsets.UTF_8);
        JavaCompiler compiler = ToolProvider.getSystemJavaCompiler();
        StringWriter said = new StringWriter();
        boolean compiles = compiler.getTask(said, null, null,
                List.of("-d", FOLDER.toString(), "-cp", System.getProperty("java.class.path")), null,
                compiler.getStandardFileManager(null, null, null).getJavaFileObjects(file)).call();
        if (!compiles) {
            return said.toString();
        }
        try (java.net.URLClassLoader loader = new java.net.URLClassLoader(new java.net.URL[] {FOLDER.toUri().toURL()})) {
            return (String) loader.loadClass("Example").getMethod("run").invoke(null);
        }
    }
}
