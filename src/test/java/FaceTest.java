import java.io.IOException;
import java.lang.reflect.Field;
import java.lang.reflect.Member;
import java.lang.reflect.Method;
import java.lang.reflect.Modifier;
import java.nio.file.Files;
import java.nio.file.Path;
import java.util.Arrays;
import java.util.HashSet;
import java.util.Set;
import java.util.TreeSet;
import java.util.regex.Matcher;
import java.util.regex.Pattern;

/** The public face, and the rules of LANGUAGE.md that can be read off the class or its file. */
final class FaceTest {
    private static final Checks CHECKS = new Checks("FaceTest");
    private static final String FILE = "src/main/java/SilenceHours.java";
    private static final Set<String> FACE = new TreeSet<>(Arrays.asList("join1", "pay2", "bid5", "setFine1", "settle0",
        "breach3", "undo0", "append1", "clearText0", "run1", "failure1", "count1", "person2", "slot3", "bidOf3", "fund1",
        "winner2", "needed3", "quiet2", "purseThen1"));

    public static void main(String[] arguments) throws IOException {
        constants();
        methods();
        otherMembersArePrivate();
        classesInside();
        words();
        noCallThrows();
        CHECKS.end();
    }

    private static void constants() {
        CHECKS.due("INVALID_ARGUMENT", SilenceHours.INVALID_ARGUMENT, -1);
        CHECKS.due("ILLEGAL_STATE", SilenceHours.ILLEGAL_STATE, -2);
        CHECKS.due("CAPACITY_EXCEEDED", SilenceHours.CAPACITY_EXCEEDED, -3);
        CHECKS.due("NONE", SilenceHours.NONE, -9);
    }

    private static void methods() {
        Set<String> found = new TreeSet<>();
        for (Method method : SilenceHours.class.getDeclaredMethods()) {
            if (Modifier.isPublic(method.getModifiers())) {
                found.add(method.getName() + method.getParameterCount());
                CHECKS.dueText("what " + method.getName() + " returns", method.getReturnType().getName(), "int");
            }
        }
        CHECKS.dueText("public methods", found.toString(), FACE.toString());
        CHECKS.due("public and final", SilenceHours.class.getModifiers(), Modifier.PUBLIC | Modifier.FINAL);
        CHECKS.due("constructors", SilenceHours.class.getDeclaredConstructors().length, 1);
    }

    private static boolean isPrivateOrPublic(Member member) {
        return member.isSynthetic() || Modifier.isPrivate(member.getModifiers()) || Modifier.isPublic(member.getModifiers());
    }

    private static void otherMembersArePrivate() {
        int publicFields = 0;
        for (Field field : SilenceHours.class.getDeclaredFields()) {
            CHECKS.due("private or public is " + field.getName(), isPrivateOrPublic(field) ? 1 : 0, 1);
            publicFields += Modifier.isPublic(field.getModifiers()) ? 1 : 0;
        }
        CHECKS.due("public constants", publicFields, 4);
        for (Method method : SilenceHours.class.getDeclaredMethods()) {
            CHECKS.due("private or public is " + method.getName(), isPrivateOrPublic(method) ? 1 : 0, 1);
        }
    }

    private static void classesInside() {
        Set<String> publicNames = new HashSet<>();
        FACE.forEach(name -> publicNames.add(name.replaceAll("[0-9]", "")));
        for (Class<?> inside : SilenceHours.class.getDeclaredClasses()) {
            CHECKS.due("static is " + inside, Modifier.isStatic(inside.getModifiers()) ? 1 : 0, 1);
            for (Method method : inside.getDeclaredMethods()) {
                CHECKS.due("a public name is " + method, publicNames.contains(method.getName()) ? 1 : 0, 0);
                CHECKS.due("few parameters has " + method, method.getParameterCount() <= 7 ? 1 : 0, 1);
            }
            int fields = 0;
            for (Field field : inside.getDeclaredFields()) {
                boolean isStatic = Modifier.isStatic(field.getModifiers());
                fields += isStatic ? 0 : 1;
                CHECKS.due("final if static is " + field, !isStatic || Modifier.isFinal(field.getModifiers()) ? 1 : 0, 1);
            }
            CHECKS.due("few fields has " + inside, fields <= 20 ? 1 : 0, 1);
        }
    }

    private static void words() throws IOException {
        String code = Files.readString(Path.of(FILE)).replaceAll("/\\*(?s:.*?)\\*/|//[^\n]*", "");
        Pattern ruledOut = Pattern.compile("\\b(throw|throws|try|catch|synchronized|assert|package|abstract|transient|"
            + "volatile|native|instanceof|Exception|Thread|System\\.(?!arraycopy\\b)\\w+|Math\\.\\w+Exact)\\b|->|::|@");
        Matcher matcher = ruledOut.matcher(code);
        CHECKS.dueText("words that are ruled out", matcher.find() ? matcher.group() : "", "");
        Matcher imports = Pattern.compile("\\bimport\\s+([\\w.*]+)").matcher(code);
        while (imports.find()) {
            CHECKS.dueText("import", imports.group(1), "java.util.Arrays");
        }
    }

    /** Arguments at the ends of int and at all small numbers, in every place of every method. */
    private static void noCallThrows() {
        int[] values = {Integer.MIN_VALUE, -100001, -1000, -2, -1, 0, 1, 2, 3, 4, 5, 6, 8, 9, 10, 12, 23, 24, 96, 99, 255,
            256, 999, 1000, 1001, 100000, 100001, Integer.MAX_VALUE};
        SilenceHours x = Checks.auction(100, 5);
        int answers = 0;
        for (int a : values) {
            answers += x.join(a) + x.setFine(a) + x.append(a) + x.run(a) + x.failure(a) + x.count(a) + x.fund(a)
                + x.purseThen(a) + x.undo() + x.undo();
            for (int b : values) {
                answers += x.pay(a, b) + x.person(a, b) + x.winner(a, b) + x.quiet(a, b);
                for (int c : values) {
                    answers += x.breach(a, b, c) + x.slot(a, b, c) + x.bidOf(a, b, c) + x.needed(a, b, c)
                        + x.bid(a, b, c, 1, 3) + x.bid(0, 1, a, b, c) + x.bid(a, 1, 1, b, c);
                }
            }
            answers += x.settle();
        }
        CHECKS.due("calls that came back, with " + answers, 1, 1);
    }
}
