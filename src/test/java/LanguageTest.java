import java.io.IOException;
import java.lang.reflect.Field;
import java.lang.reflect.Member;
import java.lang.reflect.Method;
import java.lang.reflect.Modifier;
import java.nio.file.Files;
import java.nio.file.Path;
import java.util.regex.Matcher;
import java.util.regex.Pattern;

/** The rules of LANGUAGE.md that can be read off the class or its file. */
final class LanguageTest {
    private static final Checks CHECKS = new Checks("LanguageTest");
    private static final String FILE = "src/main/java/SilenceHours.java";

    public static void main(String[] arguments) throws IOException {
        otherMembersArePrivate();
        classesInside();
        words();
        noCallThrows();
        CHECKS.end();
    }

    private static boolean isPrivateOrPublic(Member member) {
        return member.isSynthetic() || Modifier.isPrivate(member.getModifiers()) || Modifier.isPublic(member.getModifiers());
    }

    private static void otherMembersArePrivate() {
        for (Field field : SilenceHours.class.getDeclaredFields()) {
            CHECKS.due("private or public is " + field.getName(), isPrivateOrPublic(field) ? 1 : 0, 1);
        }
        for (Method method : SilenceHours.class.getDeclaredMethods()) {
            CHECKS.due("private or public is " + method.getName(), isPrivateOrPublic(method) ? 1 : 0, 1);
            boolean isPublic = Modifier.isPublic(method.getModifiers());
            CHECKS.due("a public name is " + method, hasPublicName(method) ? 1 : 0, isPublic ? 1 : 0);
        }
    }

    private static boolean hasPublicName(Method method) {
        for (Method other : SilenceHours.class.getMethods()) {
            if (other.getName().equals(method.getName())) {
                return true;
            }
        }
        return false;
    }

    private static void classesInside() {
        for (Class<?> inside : SilenceHours.class.getDeclaredClasses()) {
            CHECKS.due("static is " + inside, Modifier.isStatic(inside.getModifiers()) ? 1 : 0, 1);
            for (Method method : inside.getDeclaredMethods()) {
                CHECKS.due("a public name is " + method, hasPublicName(method) ? 1 : 0, 0);
                CHECKS.due("few parameters has " + method, method.getParameterCount() <= 7 ? 1 : 0, 1);
            }
            int fields = 0;
            for (Field field : inside.getDeclaredFields()) {
                boolean isStatic = Modifier.isStatic(field.getModifiers());
                fields += isStatic ? 0 : 1;
                CHECKS.due("final if static is " + field, !isStatic || Modifier.isFinal(field.getModifiers()) ? 1 : 0, 1);
            }
            CHECKS.due("few fields has " + inside, fields <= 20 ? 1 : 0, 1);
        }
    }

    private static void words() throws IOException {
        String code = Files.readString(Path.of(FILE)).replaceAll("/\\*(?s:.*?)\\*/|//[^\n]*", "");
        Pattern ruledOut = Pattern.compile("\\b(throw|throws|try|catch|synchronized|assert|package|abstract|transient|"
            + "volatile|native|instanceof|Exception|Thread|System\\.(?!arraycopy\\b)\\w+|Math\\.\\w+Exact)\\b|->|::|@");
        Matcher matcher = ruledOut.matcher(code);
        CHECKS.dueText("words that are ruled out", matcher.find() ? matcher.group() : "", "");
        Matcher imports = Pattern.compile("\\bimport\\s+([\\w.*]+)").matcher(code);
        while (imports.find()) {
            CHECKS.dueText("import", imports.group(1), "java.util.Arrays");
        }
    }

    /**
     * Arguments at the ends of int and at all small numbers, in every place of every method. These are more calls than
     * the document promises answers to; but the rule says that no call may ever throw.
     */
    private static void noCallThrows() {
        int[] values = {Integer.MIN_VALUE, -100001, -1000, -2, -1, 0, 1, 2, 3, 4, 5, 6, 8, 9, 10, 12, 23, 24, 96, 99, 255,
            256, 999, 1000, 1001, 100000, 100001, Integer.MAX_VALUE};
        SilenceHours x = new SilenceHours();
        x.join(100);
        x.join(5);
        int answers = 0;
        for (int a : values) {
            answers += x.join(a) + x.setFine(a) + x.append(a) + x.run(a) + x.failure(a) + x.count(a) + x.fund(a)
                + x.purseThen(a) + x.undo() + x.undo();
            for (int b : values) {
                answers += x.pay(a, b) + x.person(a, b) + x.winner(a, b) + x.quiet(a, b);
                for (int c : values) {
                    answers += x.breach(a, b, c) + x.slot(a, b, c) + x.bidOf(a, b, c) + x.needed(a, b, c)
                        + x.bid(a, b, c, 1, 3) + x.bid(0, 1, a, b, c) + x.bid(a, 1, 1, b, c);
                }
            }
            answers += x.settle();
        }
        CHECKS.due("calls that came back, with " + answers, 1, 1);
    }
}
