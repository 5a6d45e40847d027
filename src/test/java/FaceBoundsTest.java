import java.io.IOException;
import java.lang.reflect.Field;
import java.lang.reflect.Method;
import java.lang.reflect.Modifier;
import java.nio.file.DirectoryStream;
import java.nio.file.Files;
import java.nio.file.Path;

/** The sentences on what the auction is, on its public face, and on what stands in it ahead of its calls. */
final class FaceBoundsTest extends MarkedTests {
    private static final Path CLASS_FILE = Path.of("src/main/java/SilenceHours.java");
    private static final Path TESTS = Path.of("src/test/java");
    private static final String FACE = "public final class SilenceHours {"
        + " public static final int INVALID_ARGUMENT = -1;"
        + " public static final int ILLEGAL_STATE = -2;"
        + " public static final int CAPACITY_EXCEEDED = -3;"
        + " public static final int NONE = -9;"
        + " public SilenceHours();"
        + " public int join(int purse);"
        + " public int pay(int person, int amount);"
        + " public int bid(int person, int street, int hour, int side, int amount);"
        + " public int setFine(int fine);"
        + " public int settle();"
        + " public int breach(int person, int street, int hour);"
        + " public int undo();"
        + " public int append(int character);"
        + " public int clearText();"
        + " public int run(int person);"
        + " public int failure(int what);"
        + " public int count(int what);"
        + " public int person(int person, int what);"
        + " public int slot(int street, int hour, int what);"
        + " public int bidOf(int person, int street, int hour);"
        + " public int fund(int street);"
        + " public int winner(int street, int hour);"
        + " public int needed(int street, int hour, int side);"
        + " public int quiet(int street, int what);"
        + " public int purseThen(int person);"
        + " }";

    public static void main(String[] arguments) {
        new FaceBoundsTest().runAll();
    }

    // ---- what it is

    @Says(in = "What it is", words = "An auction of silence: people with purses who bid for quiet or for noise in hours of "
        + "streets, quiet that is carried on when it was outbid, ties that go to the side that won less lately, money of "
        + "winners that is shared among losers, breaches of quiet with fines and debts, plans of bids that are run from a "
        + "text with groups that are multiplied, forecasts, and undo.")
    void anAuctionOfSilence() {
        Auction x = auction(100, 60);
        x.due(x.bid(0, 0, 8, QUIET, 10), 90);
        x.due(x.bid(1, 0, 8, NOISE, 15), 45);
        x.due(x.winner(0, 8), NOISE);
        x.due(x.needed(0, 8, QUIET), 5);
        x.due(x.purseThen(0), 115);
        x.due(x.settle(), 1);
        x.due(x.slot(0, 8, 3), 5);
        x.due(x.person(0, 6), 15);
        x.due(x.runText(0, "2*(q0:8=5;)"), 1);
        x.due(x.bidOf(0, 0, 8), 10);
        x.bid(1, 0, 8, NOISE, 15);
        x.due(x.winner(0, 8), QUIET);
        x.due(x.settle(), 0);
        x.due(x.quiet(0, 0), 24);
        x.due(x.person(1, 0), 55);
        x.setFine(60);
        x.due(x.breach(1, 0, 8), 55);
        x.due(x.person(1, 2), 5);
        x.due(x.person(0, 0), 160);
        x.due(x.undo(), 4);
        x.due(x.person(1, 2), 0);
        x.due(x.person(0, 0), 105);
    }

    @Says(in = "What it is", words = "An object is used for at most 512 calls after it has been made; what later calls "
        + "answer is free.")
    void the512thCallStillAnswers() {
        Auction settled = auction();
        for (int day = 0; day < 511; day++) {
            settled.due(settled.settle(), 0);
        }
        settled.due(settled.count(0), 511);
        Auction bid = auction(100000);
        for (int call = 0; call < 510; call++) {
            bid.bid(0, call % 4, call % 24, call % 2, call + 1);
        }
        bid.due(bid.purseThen(0), 100000 - bidsThatAreLeft());
    }

    /** The sum of the last bid for each of the 24 slots in which the bids fall. */
    private static int bidsThatAreLeft() {
        int sum = 0;
        for (int call = 510 - 24; call < 510; call++) {
            sum += call + 1;
        }
        return sum;
    }

    /** The tests ask for nothing that is free: Auction ends a test that would, and all tests call by it. */
    @Says(in = "What it is", words = "what later calls answer is free.")
    void noTestAsksForLaterAnswers() throws IOException {
        Auction x = auction();
        for (int call = 0; call < 512; call++) {
            x.count(0);
        }
        int further = 0;
        try {
            x.count(0);
            further++;
        } catch (IllegalStateException ended) {
            due("calls that are kept", x.calls(), 512);
        }
        due("calls behind the 512th", further, 0);
        try (DirectoryStream<Path> files = Files.newDirectoryStream(TESTS, "*.java")) {
            for (Path file : files) {
                // Rule 7 of LANGUAGE.md goes beyond the document: no call may ever throw, whatever it answers.
                boolean mayMakeOne = file.endsWith("Auction.java") || file.endsWith("LanguageTest.java");
                boolean makesOne = Files.readString(file).contains("new " + "SilenceHours(");
                due(file + " makes an object by itself", makesOne && !mayMakeOne ? 1 : 0, 0);
            }
        }
    }

    // ---- the public face

    @Says(in = "The public face", words = FACE)
    void theFace() throws IOException {
        String code = Files.readString(CLASS_FILE);
        int constants = 0;
        int constructors = 0;
        int methods = 0;
        for (String line : FACE.replaceAll("[{}]", "").replace("class SilenceHours ", "class SilenceHours;").split("; *")) {
            String end = line.contains(" = ") ? ";" : " {";
            due("in the file stands " + line, code.contains(line.trim() + end) ? 1 : 0, 1);
            constants += line.contains(" = ") ? 1 : 0;
            constructors += line.contains("public SilenceHours(") ? 1 : 0;
            methods += line.contains("public int ") ? 1 : 0;
        }
        due("public and final", SilenceHours.class.getModifiers(), Modifier.PUBLIC | Modifier.FINAL);
        due("constants", SilenceHours.class.getFields().length, constants);
        due("constructors", SilenceHours.class.getDeclaredConstructors().length, constructors);
        due("methods", publicMethods(), methods);
        due("classes", SilenceHours.class.getClasses().length, 0);
    }

    private static int publicMethods() {
        int found = 0;
        for (Method method : SilenceHours.class.getDeclaredMethods()) {
            found += Modifier.isPublic(method.getModifiers()) ? 1 : 0;
        }
        return found;
    }

    @Says(in = "The public face", words = {"public static final int INVALID_ARGUMENT = -1;",
        "public static final int ILLEGAL_STATE = -2;", "public static final int CAPACITY_EXCEEDED = -3;",
        "public static final int NONE = -9;"})
    void theConstants() throws IllegalAccessException {
        due("INVALID_ARGUMENT", SilenceHours.INVALID_ARGUMENT, -1);
        due("ILLEGAL_STATE", SilenceHours.ILLEGAL_STATE, -2);
        due("CAPACITY_EXCEEDED", SilenceHours.CAPACITY_EXCEEDED, -3);
        due("NONE", SilenceHours.NONE, -9);
        for (Field field : SilenceHours.class.getFields()) {
            boolean isConstant = Modifier.isStatic(field.getModifiers()) && Modifier.isFinal(field.getModifiers());
            due("a constant is " + field, isConstant ? 1 : 0, 1);
            due("below 0 is " + field, field.getInt(null) < 0 ? 1 : 0, 1);
        }
    }

    // ---- what the interface says ahead of its calls

    private void standsAhead(String comment, String... calls) throws IOException {
        String code = Files.readString(CLASS_FILE);
        for (String call : calls) {
            int place = code.indexOf("public int " + call + "(");
            int start = code.lastIndexOf("// ----", place);
            boolean found = place >= 0 && start >= 0;
            dueText("ahead of " + call, found ? code.substring(start, code.indexOf('\n', start)) : "nothing", comment);
        }
    }

    @Says(in = "Errors", words = {
        "Ahead of the calls join, pay, bid, setFine the interface says: ---- people and bids.",
        "Ahead of the calls settle, breach, undo the interface says: ---- days and breaches.",
        "Ahead of the calls append, clearText, run, failure the interface says: ---- plans.",
        "Ahead of the calls count, person, slot, bidOf, fund the interface says: ---- looking.",
        "Ahead of the calls winner, needed, quiet, purseThen the interface says: ---- what could be, which changes nothing."})
    void aheadOfTheCalls() throws IOException {
        standsAhead("// ---- people and bids", "join", "pay", "bid", "setFine");
        standsAhead("// ---- days and breaches", "settle", "breach", "undo");
        standsAhead("// ---- plans", "append", "clearText", "run", "failure");
        standsAhead("// ---- looking", "count", "person", "slot", "bidOf", "fund");
        standsAhead("// ---- what could be, which changes nothing", "winner", "needed", "quiet", "purseThen");
        leavesNoTrace(MarkedTests::busyDay, x -> x.winner(3, 23), x -> x.needed(3, 23, QUIET), x -> x.quiet(3, 1),
            x -> x.purseThen(1));
    }
}
