import java.io.IOException;
import java.lang.reflect.Method;
import java.nio.file.DirectoryStream;
import java.nio.file.Files;
import java.nio.file.Path;
import java.util.Arrays;
import java.util.LinkedHashMap;
import java.util.Map;

/** Holds the marks of the tests against the document: each mark is in it word for word, and each sentence is marked. */
final class SentencesTest {
    private static final Path DOCUMENT = Path.of("../shared/DOC.md");
    private static final Path TESTS = Path.of("src/test/java");
    /** The heading whose text rules promises out. */
    private static final String NOT_TESTED = "Not promised";
    private static final char TESTED = '#';

    private final Checks checks = new Checks("SentencesTest");
    private final Map<String, String> textUnder = new LinkedHashMap<>();
    private final Map<String, char[]> untestedUnder = new LinkedHashMap<>();

    public static void main(String[] arguments) throws IOException, ClassNotFoundException {
        SentencesTest test = new SentencesTest();
        test.readDocument(Files.readString(DOCUMENT));
        try (DirectoryStream<Path> files = Files.newDirectoryStream(TESTS, "*BoundsTest.java")) {
            for (Path file : files) {
                test.takeOffAll(Class.forName(file.getFileName().toString().replace(".java", "")));
            }
        }
        test.nothingIsLeft();
        test.checks.end();
    }

    private void readDocument(String document) {
        for (String section : document.split("(?m)^#+ ")) {
            if (section.isBlank()) {
                continue;
            }
            String[] parts = section.split("\n", 2);
            String heading = parts[0].split(":")[0].trim();
            String text = parts[1]
                .replaceAll("(?m)^```\\w*$", "")
                .replaceAll("(?m)^`[^`]*\\)`: ", "")
                .replaceAll("(?m)^ *- ", "")
                .replace("`", "")
                .replaceAll("\\s+", " ");
            textUnder.put(heading, text);
            untestedUnder.put(heading, text.toCharArray());
        }
        checks.due("sections of promises", (int) textUnder.keySet().stream().filter(x -> x.startsWith("Promise")).count(), 21);
    }

    private void takeOffAll(Class<?> tests) {
        for (Method method : tests.getDeclaredMethods()) {
            for (Says mark : method.getAnnotationsByType(Says.class)) {
                takeOff(mark, tests.getName() + "." + method.getName());
            }
        }
    }

    private void takeOff(Says mark, String test) {
        String text = textUnder.getOrDefault(mark.in(), "");
        for (String words : mark.words()) {
            int place = text.indexOf(words);
            checks.due(test + ": in \"" + mark.in() + "\" stands: " + words, place >= 0 ? 1 : 0, 1);
            while (place >= 0) {
                Arrays.fill(untestedUnder.get(mark.in()), place, place + words.length(), TESTED);
                place = text.indexOf(words, place + 1);
            }
        }
    }

    private void nothingIsLeft() {
        untestedUnder.forEach((heading, untested) -> {
            String left = new String(untested).replaceAll(TESTED + "+", "..");
            boolean allTested = !left.matches("(?s).*[A-Za-z0-9].*");
            checks.due("\"" + heading + "\" has sentences without a test: " + left,
                allTested || heading.equals(NOT_TESTED) ? 1 : 0, 1);
        });
    }
}
