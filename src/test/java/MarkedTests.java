import java.lang.reflect.InvocationTargetException;
import java.lang.reflect.Method;
import java.util.ArrayList;
import java.util.Arrays;
import java.util.Comparator;
import java.util.List;

/** Tests that are marked with the words of the document that they test; and what such tests have in common. */
abstract class MarkedTests {
    static final int INVALID = Checks.INVALID;
    static final int ILLEGAL = Checks.ILLEGAL;
    static final int FULL = Checks.FULL;
    static final int NONE = Checks.NONE;
    static final int QUIET = Checks.QUIET;
    static final int NOISE = Checks.NOISE;
    static final Auction.Story NOTHING = x -> { };

    /** Beyond most ranges; of some of them a multiple of 24, of 96 or of 256 is small again behind a wrap-around. */
    private static final int[] FAR = {256, 65536, 1 << 24, 1 << 27, 1 << 28, 1 << 29, 1 << 30, Integer.MAX_VALUE,
        -256, -65536, -(1 << 24), -(1 << 27), -(1 << 28), -(1 << 29), -(1 << 30), Integer.MIN_VALUE};

    private final Checks checks = new Checks(getClass().getName());
    private int mostCalls = Auction.PROMISED_CALLS;

    /** Runs each test that is marked. */
    final void runAll() {
        Method[] tests = getClass().getDeclaredMethods();
        Arrays.sort(tests, Comparator.comparing(Method::getName));
        for (Method test : tests) {
            if (test.getAnnotationsByType(Says.class).length > 0) {
                run(test);
            }
        }
        checks.end();
    }

    private void run(Method test) {
        int before = checks.made();
        int wrong = checks.wrong();
        try {
            test.invoke(this);
        } catch (InvocationTargetException thrown) {
            thrown.getCause().printStackTrace(System.out);
            checks.due(test.getName() + " has thrown", 1, 0);
        } catch (IllegalAccessException hidden) {
            checks.due(test.getName() + " cannot be called", 1, 0);
        }
        checks.due(test.getName() + " has checked something", checks.made() > before ? 1 : 0, 1);
        if (checks.wrong() > wrong) {
            for (Says mark : test.getAnnotationsByType(Says.class)) {
                System.out.println(test.getName() + " tests \"" + mark.in() + "\": " + String.join(" | ", mark.words()));
            }
        }
    }

    /** Holds what is no answer of an auction against what is due. */
    final void due(String what, int got, int want) {
        checks.due(what, got, want);
    }

    final void dueText(String what, String got, String want) {
        checks.dueText(what, got, want);
    }

    /** A new auction in which a person has joined for each purse. */
    final Auction auction(int... purses) {
        return auctionAfter(x -> x.joinAll(purses));
    }

    final Auction auctionAfter(Auction.Story story) {
        Auction x = new Auction(checks, mostCalls);
        story.on(x);
        return x;
    }

    /** For what the document says of a state that no object is promised to reach: lets a test make more calls. */
    final void goBeyondThePromise(int calls) {
        mostCalls = Auction.PROMISED_CALLS + calls;
    }

    final void keepToThePromise() {
        mostCalls = Auction.PROMISED_CALLS;
    }

    /**
     * Three people (0 to 2) behind a settled day: 0 won slot 0, 0 for quiet, 1 won slot 3, 23 for noise with 3 of quiet
     * carried on; bids for the next day, a debt of 15 of person 2, a text, a failure, and a history that is full.
     */
    static void busyDay(Auction x) {
        x.joinAll(1000, 500, 5);
        x.bid(0, 0, 0, QUIET, 10);
        x.bid(1, 0, 0, NOISE, 3);
        x.bid(0, 3, 23, QUIET, 7);
        x.bid(1, 3, 23, NOISE, 8);
        x.settle();
        x.bid(0, 3, 23, QUIET, 4);
        x.bid(1, 1, 12, NOISE, 6);
        x.breach(2, 2, 5);
        x.runText(0, "q0:1=1;n");
    }

    // ---- calls that change nothing

    /** Whatever the calls answer, no later call shows that they were made, but for what failure() tells. */
    final void leavesNoTraceButFailure(Auction.Story story, Auction.Call... calls) {
        sameFate(Fate.rounds(), behind(story, calls), story);
    }

    /** Whatever the calls answer, no later call shows that they were made. */
    final void leavesNoTrace(Auction.Story story, Auction.Call... calls) {
        sameFate(Fate.roundsAndFailure(), behind(story, calls), story);
    }

    private static Auction.Story behind(Auction.Story story, Auction.Call... calls) {
        return x -> {
            story.on(x);
            for (Auction.Call call : calls) {
                call.on(x);
            }
        };
    }

    /** Later calls answer the same behind the one story as behind the other. */
    private void sameFate(List<Auction.Story> rounds, Auction.Story story, Auction.Story other) {
        for (Auction.Story round : rounds) {
            Auction x = auctionAfter(story);
            String shown = shownBy(round, x);
            String due = shownBy(round, auctionAfter(other));
            boolean same = shown.equals(due);
            checks.due("what shows a difference", same ? 0 : 1, 0);
            if (!same) {
                System.out.println(x.callsFrom(0) + "but it should end like this:\n" + due);
            }
        }
    }

    private static String shownBy(Auction.Story round, Auction x) {
        int first = x.calls();
        round.on(x);
        return x.callsFrom(first);
    }

    // ---- calls that are refused

    /** Each of the calls returns the error code, and no later call shows that they were made. */
    final void refused(int code, Auction.Story story, Auction.Call... calls) {
        for (Auction.Call call : calls) {
            Auction x = auctionAfter(story);
            x.due(call.on(x), code);
        }
        leavesNoTrace(story, calls);
    }

    /** INVALID_ARGUMENT for the argument just below a range, just above it, and far from it. */
    final void invalidOutside(int least, int most, Auction.Story story, Auction.CallWith call) {
        List<Auction.Call> calls = new ArrayList<>();
        for (int argument : outside(least, most)) {
            calls.add(x -> call.on(x, argument));
        }
        refused(INVALID, story, calls.toArray(new Auction.Call[0]));
    }

    private static List<Integer> outside(int least, int most) {
        List<Integer> found = new ArrayList<>(List.of(least - 1, least - 2, most + 1, most + 2));
        for (int far : FAR) {
            if (far < least - 2 || far > most + 2) {
                found.add(far);
            }
        }
        return found;
    }

    // ---- actions

    /** The call succeeds, is recorded as one state, and undo() takes back all of it that a later call could show. */
    final void isAnAction(Auction.Story story, Auction.Call call) {
        Auction x = auctionAfter(story);
        int states = x.count(8);
        boolean succeeds = call.on(x) >= 0;
        x.due(succeeds ? 1 : 0, 1);
        x.due(x.count(8), Math.min(states + 1, 5));
        x.due(x.undo(), Math.min(states, 4));
        // An action drops the oldest state of a full history for good.
        Auction.Story before = states == 5 ? behind(story, y -> y.pay(0, 0), y -> y.undo()) : story;
        sameFate(Fate.roundsAndFailure(), behind(story, call, y -> y.undo()), before);
    }

    /** The call, whatever it answers, is not recorded. */
    final void isNoAction(Auction.Story story, Auction.Call call) {
        Auction x = auctionAfter(story);
        int states = x.count(8);
        call.on(x);
        x.due(x.count(8), states);
    }
}
