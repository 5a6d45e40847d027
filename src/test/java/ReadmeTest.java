import java.io.IOException;
import java.lang.reflect.Method;
import java.net.URL;
import java.net.URLClassLoader;
import java.nio.file.Files;
import java.nio.file.Path;
import java.util.ArrayList;
import java.util.List;
import java.util.Set;
import java.util.TreeSet;
import java.util.regex.Matcher;
import java.util.regex.Pattern;
import javax.tools.ToolProvider;

/** README.md: its example answers what its comments say, and it names every call and every test. */
final class ReadmeTest {
    private static final Checks CHECKS = new Checks("ReadmeTest");
    private static final Path README = Path.of("README.md");
    private static final Path TESTS = Path.of("src/test/java");
    /** A line of the example: a call, by whose comment its answer is known. */
    private static final Pattern ANSWERED = Pattern.compile("(?m)^(int (\\w+) = )?(auction\\..*\\)); +// (-?\\d+).*$");

    public static void main(String[] arguments) throws IOException, ReflectiveOperationException {
        String readme = Files.readString(README);
        exampleHolds(readme);
        namesEveryCall(readme);
        namesEveryTest(readme);
        CHECKS.end();
    }

    private static void exampleHolds(String readme) throws IOException, ReflectiveOperationException {
        Matcher block = Pattern.compile("(?s)```java\n(.*?)```").matcher(readme);
        String example = block.find() ? block.group(1) : "";
        Matcher line = ANSWERED.matcher(example);
        StringBuilder code = new StringBuilder("import java.util.*;\npublic final class Example {\n"
            + "public static List<Integer> answers() {\nList<Integer> answers = new ArrayList<>();\n");
        List<Integer> due = new ArrayList<>();
        while (line.find()) {
            due.add(Integer.valueOf(line.group(4)));
            String answer = line.group(2) == null ? line.group(3) : line.group(2);
            String call = line.group(1) == null ? "" : line.group(1) + line.group(3) + ";\n";
            line.appendReplacement(code, Matcher.quoteReplacement(call + "answers.add(" + answer + ");"));
        }
        line.appendTail(code).append("return answers;\n}\n}\n");
        List<?> answers = answersOf(code.toString());
        CHECKS.dueText("the answers of the example", answers.toString(), due.toString());
        CHECKS.due("several answers", due.size() > 5 ? 1 : 0, 1);
    }

    private static List<?> answersOf(String code) throws IOException, ReflectiveOperationException {
        Path folder = Files.createTempDirectory("readme");
        Path source = folder.resolve("Example.java");
        Files.writeString(source, code);
        int failed = ToolProvider.getSystemJavaCompiler().run(null, null, null, "-cp", System.getProperty("java.class.path"),
            "-d", folder.toString(), source.toString());
        CHECKS.due("compiling the example", failed, 0);
        try (URLClassLoader loader = new URLClassLoader(new URL[] {folder.toUri().toURL()})) {
            return (List<?>) loader.loadClass("Example").getMethod("answers").invoke(null);
        } finally {
            Files.deleteIfExists(folder.resolve("Example.class"));
            Files.delete(source);
            Files.delete(folder);
        }
    }

    private static void namesEveryCall(String readme) {
        for (Method method : SilenceHours.class.getMethods()) {
            if (method.getDeclaringClass() == SilenceHours.class) {
                CHECKS.due("named is " + method.getName(), readme.contains("`" + method.getName() + "(") ? 1 : 0, 1);
            }
        }
    }

    private static void namesEveryTest(String readme) throws IOException {
        Set<String> files = new TreeSet<>();
        try (var found = Files.newDirectoryStream(TESTS, "*Test.java")) {
            found.forEach(file -> files.add(file.getFileName().toString().replace(".java", "")));
        }
        Set<String> named = new TreeSet<>();
        Matcher row = Pattern.compile("(?m)^\\| `(\\w+Test)` \\|").matcher(readme);
        while (row.find()) {
            named.add(row.group(1));
        }
        CHECKS.dueText("the tests in the tables", named.toString(), files.toString());
    }
}
