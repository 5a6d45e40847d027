import java.util.ArrayList;
import java.util.List;
import java.util.function.ToIntFunction;

/** An auction under test. It keeps its calls, and ends a test that makes more of them than the document promises. */
final class Auction {
    static final int PROMISED_CALLS = 512;
    private static final int HOURS = 24;
    private static final int SLOTS = 96;

    /** Some calls on an auction. */
    interface Story {
        void on(Auction x);
    }

    /** One call on an auction, and its answer. */
    interface Call {
        int on(Auction x);
    }

    /** One call on an auction with an argument that is still to be chosen, and its answer. */
    interface CallWith {
        int on(Auction x, int argument);
    }

    /** A call that was made. */
    private record Made(ToIntFunction<SilenceHours> call, String name, int[] arguments, int answer) {
        String told() {
            StringBuilder text = new StringBuilder(name).append('(');
            for (int i = 0; i < arguments.length; i++) {
                text.append(i == 0 ? "" : ", ").append(arguments[i]);
            }
            return text.append(") = ").append(answer).toString();
        }
    }

    private final Checks checks;
    private final int mostCalls;
    private final SilenceHours real = new SilenceHours();
    private final List<Made> made = new ArrayList<>();

    Auction(Checks checks, int mostCalls) {
        this.checks = checks;
        this.mostCalls = mostCalls;
    }

    /** An auction in which one person has joined for each purse. */
    static Auction of(Checks checks, int... purses) {
        Auction x = new Auction(checks, PROMISED_CALLS);
        x.joinAll(purses);
        return x;
    }

    private int call(ToIntFunction<SilenceHours> call, String name, int... arguments) {
        if (calls() >= mostCalls) {
            throw new IllegalStateException("a test with more than " + mostCalls + " calls on one object");
        }
        int answer = call.applyAsInt(real);
        made.add(new Made(call, name, arguments, answer));
        return answer;
    }

    // ---- what has been called

    int calls() {
        return made.size();
    }

    /** All calls from one of them on, a line each. */
    String callsFrom(int first) {
        StringBuilder text = new StringBuilder();
        for (Made call : made.subList(first, calls())) {
            text.append(call.told()).append('\n');
        }
        return text.toString();
    }

    /** Holds an answer, that of the latest call, against the one that is due. */
    void due(int got, int want) {
        int before = calls() - 1;
        String what = before < 0 ? "nothing yet" : "behind " + before + " calls: " + made.get(before).told();
        checks.due(what, got, want);
        if (got != want) {
            System.out.println(callsFrom(0));
        }
    }

    // ---- the same calls on other objects

    /** Another object, on which the first calls of this one are made again; they answer the same. */
    Auction again(int firstCalls) {
        Auction other = new Auction(checks, mostCalls);
        for (Made call : made.subList(0, firstCalls)) {
            int answer = other.call(call.call(), call.name(), call.arguments());
            if (answer != call.answer()) {
                other.due(answer, call.answer());
            }
        }
        return other;
    }

    /** The answers of looks at what stands here. Other objects are looked at, as looks are calls of an object too. */
    private String answersOf(List<Call> looks) {
        StringBuilder text = new StringBuilder();
        Auction other = again(calls());
        for (Call look : looks) {
            if (other.calls() == PROMISED_CALLS) {
                other = again(calls());
            }
            text.append(look.on(other)).append(' ');
        }
        return text.toString();
    }

    /** All that calls can see of the state that undo() brings back. */
    String seen() {
        return answersOf(looksAtState());
    }

    /** What seen() tells, and besides it the history, the text and the failure. */
    String allSeen() {
        List<Call> looks = looksAtState();
        looks.add(x -> x.count(8));
        looks.add(x -> x.count(9));
        addLooks(looks, 5, Auction::failure);
        return answersOf(looks);
    }

    private List<Call> looksAtState() {
        List<Call> looks = new ArrayList<>();
        int people = again(calls()).count(1);
        addLooks(looks, 8, Auction::count);
        addLooks(looks, 4, Auction::fund);
        for (int i = 0; i < people; i++) {
            int person = i;
            addLooks(looks, 8, (x, what) -> x.person(person, what));
            addLooks(looks, SLOTS, (x, slot) -> x.bidOf(person, slot / HOURS, slot % HOURS));
        }
        for (int i = 0; i < SLOTS; i++) {
            int slot = i;
            addLooks(looks, 6, (x, what) -> x.slot(slot / HOURS, slot % HOURS, what));
        }
        return looks;
    }

    private static void addLooks(List<Call> looks, int end, CallWith look) {
        for (int i = 0; i < end; i++) {
            int argument = i;
            looks.add(x -> look.on(x, argument));
        }
    }

    // ---- several calls at once

    void joinAll(int... purses) {
        for (int purse : purses) {
            join(purse);
        }
    }

    void write(String text) {
        clearText();
        for (int i = 0; i < text.length(); i++) {
            append(text.charAt(i));
        }
    }

    int runText(int person, String text) {
        write(text);
        return run(person);
    }

    void failureIs(int kind, int place, int depth, int bidsBefore, int code) {
        due(failure(0), kind);
        due(failure(1), place);
        due(failure(2), depth);
        due(failure(3), bidsBefore);
        due(failure(4), code);
    }

    // ---- the face

    int join(int purse) {
        return call(x -> x.join(purse), "join", purse);
    }

    int pay(int person, int amount) {
        return call(x -> x.pay(person, amount), "pay", person, amount);
    }

    int bid(int person, int street, int hour, int side, int amount) {
        return call(x -> x.bid(person, street, hour, side, amount), "bid", person, street, hour, side, amount);
    }

    int setFine(int fine) {
        return call(x -> x.setFine(fine), "setFine", fine);
    }

    int settle() {
        return call(x -> x.settle(), "settle");
    }

    int breach(int person, int street, int hour) {
        return call(x -> x.breach(person, street, hour), "breach", person, street, hour);
    }

    int undo() {
        return call(x -> x.undo(), "undo");
    }

    int append(int character) {
        return call(x -> x.append(character), "append", character);
    }

    int clearText() {
        return call(x -> x.clearText(), "clearText");
    }

    int run(int person) {
        return call(x -> x.run(person), "run", person);
    }

    int failure(int what) {
        return call(x -> x.failure(what), "failure", what);
    }

    int count(int what) {
        return call(x -> x.count(what), "count", what);
    }

    int person(int person, int what) {
        return call(x -> x.person(person, what), "person", person, what);
    }

    int slot(int street, int hour, int what) {
        return call(x -> x.slot(street, hour, what), "slot", street, hour, what);
    }

    int bidOf(int person, int street, int hour) {
        return call(x -> x.bidOf(person, street, hour), "bidOf", person, street, hour);
    }

    int fund(int street) {
        return call(x -> x.fund(street), "fund", street);
    }

    int winner(int street, int hour) {
        return call(x -> x.winner(street, hour), "winner", street, hour);
    }

    int needed(int street, int hour, int side) {
        return call(x -> x.needed(street, hour, side), "needed", street, hour, side);
    }

    int quiet(int street, int what) {
        return call(x -> x.quiet(street, what), "quiet", street, what);
    }

    int purseThen(int person) {
        return call(x -> x.purseThen(person), "purseThen", person);
    }
}
