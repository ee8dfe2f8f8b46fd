import java.lang.reflect.Method;
import java.net.URL;
import java.net.URLClassLoader;
import java.nio.file.Files;
import java.nio.file.Path;
import java.util.ArrayList;
import java.util.List;
import java.util.regex.Matcher;
import java.util.regex.Pattern;
import javax.tools.ToolProvider;

/** README.md: its example answers what stands behind its calls, and it names every call of the face. */
public final class ReadmeTest {
    /** A call, its answer behind "//" and, behind a comma, what a reader is told of it. */
    private static final Pattern ANSWERED = Pattern.compile("(?:int (\\w+) = )?(.*);\\s*// ([^,]+)(?:, .*)?");

    private static final Check check = new Check();

    public static void main(String[] args) throws Exception {
        List<String> readme = Files.readAllLines(Path.of("README.md"));
        List<String> example = exampleOf(readme);
        List<String> calls = new ArrayList<>();
        List<String> dues = new ArrayList<>();
        String source = sourceOf(example, calls, dues);
        List<?> answers = answersOf(source);
        check.same("the number of answered calls", answers.size(), dues.size());
        for (int i = 0; i < Math.min(answers.size(), dues.size()); i++) {
            check.same(calls.get(i), answers.get(i), dues.get(i));
        }
        check.same("there are many of them", dues.size() > 20, true);
        String text = String.join("\n", readme);
        for (Method method : TimerLedger.class.getMethods()) {
            boolean own = method.getDeclaringClass() == TimerLedger.class;
            check.same("README.md names " + method.getName(), !own || text.contains("`" + method.getName() + "`"), true);
        }
        check.end();
    }

    private static List<String> exampleOf(List<String> readme) {
        int first = readme.indexOf("```java") + 1;
        return readme.subList(first, first + readme.subList(first, readme.size()).indexOf("```"));
    }

    /** A class that makes the calls of the example and keeps each answer as a text. */
    private static String sourceOf(List<String> example, List<String> calls, List<String> dues) {
        StringBuilder text = new StringBuilder("public final class ReadmeExample {\n");
        text.append("public static java.util.List<String> answers() {\n");
        text.append("java.util.List<String> answers = new java.util.ArrayList<>();\n");
        for (String line : example) {
            Matcher matcher = ANSWERED.matcher(line);
            if (!matcher.matches()) {
                text.append(line).append('\n');
                continue;
            }
            calls.add(matcher.group(2));
            dues.add(matcher.group(3));
            text.append(statementOf(matcher.group(1), matcher.group(2), matcher.group(3))).append('\n');
        }
        return text.append("return answers; } }\n").toString();
    }

    private static String statementOf(String name, String call, String due) {
        if (due.startsWith("throws ")) {
            String thrown = "answers.add(\"throws \" + thrown.getClass().getSimpleName());";
            return "try { answers.add(String.valueOf(" + call + ")); } catch (RuntimeException thrown) { " + thrown + " }";
        }
        if (name != null) {
            return "int " + name + " = " + call + "; answers.add(String.valueOf(" + name + "));";
        }
        return "answers.add(String.valueOf(" + call + "));";
    }

    private static List<?> answersOf(String source) throws Exception {
        Path built = Files.createTempDirectory("readme");
        Path file = built.resolve("ReadmeExample.java");
        Files.writeString(file, source);
        String classes = System.getProperty("java.class.path");
        int failed = ToolProvider.getSystemJavaCompiler().run(null, null, null, "-cp", classes, "-d", built.toString(), file.toString());
        check.same("compiling the example", failed, 0);
        try (URLClassLoader loader = new URLClassLoader(new URL[] {built.toUri().toURL()})) {
            return (List<?>) loader.loadClass("ReadmeExample").getMethod("answers").invoke(null);
        } finally {
            Files.deleteIfExists(built.resolve("ReadmeExample.class"));
            Files.deleteIfExists(file);
            Files.deleteIfExists(built);
        }
    }
}
