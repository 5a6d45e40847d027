import java.util.ArrayList;
import java.util.List;

/** An auction under test. It keeps its calls, and ends a test that makes more of them than the document promises. */
final class Auction {
    static final int PROMISED_CALLS = 512;

    /** Some calls on an auction. */
    interface Story {
        void on(Auction x);
    }

    /** One call on an auction, and its answer. */
    interface Call {
        int on(Auction x);
    }

    /** One call on an auction with an argument that is still to be chosen, and its answer. */
    interface CallWith {
        int on(Auction x, int argument);
    }

    private final Checks checks;
    private final int mostCalls;
    private final SilenceHours real = new SilenceHours();
    private final List<String> names = new ArrayList<>();
    private final List<int[]> argumentsOf = new ArrayList<>();
    private final List<Integer> answers = new ArrayList<>();

    Auction(Checks checks, int mostCalls) {
        this.checks = checks;
        this.mostCalls = mostCalls;
    }

    private int told(String name, int answer, int... arguments) {
        names.add(name);
        argumentsOf.add(arguments);
        answers.add(answer);
        if (names.size() > mostCalls) {
            throw new IllegalStateException("a test with more than " + mostCalls + " calls on one object");
        }
        return answer;
    }

    // ---- what has been called

    int calls() {
        return names.size();
    }

    private String call(int number) {
        StringBuilder text = new StringBuilder(names.get(number)).append('(');
        for (int i = 0; i < argumentsOf.get(number).length; i++) {
            text.append(i == 0 ? "" : ", ").append(argumentsOf.get(number)[i]);
        }
        return text.append(") = ").append(answers.get(number)).toString();
    }

    /** All calls from one of them on, a line each. */
    String callsFrom(int first) {
        StringBuilder text = new StringBuilder();
        for (int number = first; number < calls(); number++) {
            text.append(call(number)).append('\n');
        }
        return text.toString();
    }

    /** Holds an answer, that of the latest call, against the one that is due. */
    void due(int got, int want) {
        String what = calls() == 0 ? "nothing yet" : "behind " + (calls() - 1) + " calls: " + call(calls() - 1);
        checks.due(what, got, want);
        if (got != want) {
            System.out.println(callsFrom(0));
        }
    }

    // ---- several calls at once

    void joinAll(int... purses) {
        for (int purse : purses) {
            join(purse);
        }
    }

    void write(String text) {
        clearText();
        for (int i = 0; i < text.length(); i++) {
            append(text.charAt(i));
        }
    }

    int runText(int person, String text) {
        write(text);
        return run(person);
    }

    void failureIs(int kind, int place, int depth, int bidsBefore, int code) {
        due(failure(0), kind);
        due(failure(1), place);
        due(failure(2), depth);
        due(failure(3), bidsBefore);
        due(failure(4), code);
    }

    // ---- the face

    int join(int purse) {
        return told("join", real.join(purse), purse);
    }

    int pay(int person, int amount) {
        return told("pay", real.pay(person, amount), person, amount);
    }

    int bid(int person, int street, int hour, int side, int amount) {
        return told("bid", real.bid(person, street, hour, side, amount), person, street, hour, side, amount);
    }

    int setFine(int fine) {
        return told("setFine", real.setFine(fine), fine);
    }

    int settle() {
        return told("settle", real.settle());
    }

    int breach(int person, int street, int hour) {
        return told("breach", real.breach(person, street, hour), person, street, hour);
    }

    int undo() {
        return told("undo", real.undo());
    }

    int append(int character) {
        return told("append", real.append(character), character);
    }

    int clearText() {
        return told("clearText", real.clearText());
    }

    int run(int person) {
        return told("run", real.run(person), person);
    }

    int failure(int what) {
        return told("failure", real.failure(what), what);
    }

    int count(int what) {
        return told("count", real.count(what), what);
    }

    int person(int person, int what) {
        return told("person", real.person(person, what), person, what);
    }

    int slot(int street, int hour, int what) {
        return told("slot", real.slot(street, hour, what), street, hour, what);
    }

    int bidOf(int person, int street, int hour) {
        return told("bidOf", real.bidOf(person, street, hour), person, street, hour);
    }

    int fund(int street) {
        return told("fund", real.fund(street), street);
    }

    int winner(int street, int hour) {
        return told("winner", real.winner(street, hour), street, hour);
    }

    int needed(int street, int hour, int side) {
        return told("needed", real.needed(street, hour, side), street, hour, side);
    }

    int quiet(int street, int what) {
        return told("quiet", real.quiet(street, what), street, what);
    }

    int purseThen(int person) {
        return told("purseThen", real.purseThen(person), person);
    }
}
