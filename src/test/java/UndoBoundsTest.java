/** The sentences on undo and on errors, and those of promise 8. */
final class UndoBoundsTest extends MarkedTests {
    public static void main(String[] arguments) {
        new UndoBoundsTest().runAll();
    }

    // ---- the history

    @Says(in = "Undo", words = "A history of at most 5 states is kept;")
    void fiveStatesAreKept() {
        Auction x = auction();
        for (int action = 1; action <= 7; action++) {
            x.join(0);
            x.due(x.count(8), Math.min(action, 5));
        }
        for (int left = 4; left >= 0; left--) {
            x.due(x.undo(), left);
            x.due(x.count(8), left);
        }
        x.due(x.undo(), ILLEGAL);
        x.due(x.count(1), 2);
    }

    @Says(in = "Undo", words = "a state is everything but the text, the failure and the history.")
    void theTextAndTheFailureStay() {
        Auction x = auction(10);
        x.write("q0:0=1;");
        x.pay(0, 1);
        x.append('x');
        x.run(0);
        x.failureIs(1, 7, 0, 0, NONE);
        x.due(x.undo(), 1);
        x.due(x.count(9), 8);
        x.failureIs(1, 7, 0, 0, NONE);
        x.due(x.run(0), -1007);
        x.due(x.undo(), 0);
        x.due(x.count(1), 0);
        x.due(x.failure(1), 7);
        x.due(x.clearText(), 8);
        // Nor does undo() bring back a text that has been cleared.
        Auction cleared = auction(10);
        cleared.write("q0:0=1;");
        cleared.run(0);
        cleared.clearText();
        cleared.undo();
        cleared.due(cleared.count(9), 0);
        cleared.due(cleared.failure(0), NONE);
    }

    @Says(in = "Undo", words = "a state is everything but the text, the failure and the history.")
    void theHistoryIsNoPartOfAState() {
        // Behind undo() the history is shorter by one, and goes on from there.
        Auction x = auction();
        x.joinAll(0, 0, 0, 0, 0, 0, 0);
        x.due(x.undo(), 4);
        x.due(x.undo(), 3);
        x.due(x.count(1), 5);
        x.joinAll(0, 0, 0, 0);
        x.due(x.count(8), 5);
        for (int left = 4; left >= 0; left--) {
            x.due(x.undo(), left);
            x.due(x.count(1), 4 + left);
        }
        x.due(x.undo(), ILLEGAL);
        x.due(x.count(1), 4);
    }

    /** What no call shows at once is a part of a state too: it comes to light by what is done next. */
    @Says(in = "Undo", words = "a state is everything but the text, the failure and the history.")
    void whatIsNotSeenIsAPartOfAState() {
        // The day that is undone changes who wins a tie, who gets a fine, and what is carried on.
        isAnAction(MarkedTests::busyDay, x -> x.settle());
        Auction.Story bidsForBoth = x -> {
            busyDay(x);
            x.bid(1, 0, 0, QUIET, 2);
            x.bid(0, 0, 0, NOISE, 3);
            x.bid(1, 2, 0, QUIET, 5);
        };
        isAnAction(bidsForBoth, x -> x.settle());
        // The breach that is undone changes where a debt is paid to.
        isAnAction(MarkedTests::busyDay, x -> x.breach(2, 0, 0));
        isAnAction(MarkedTests::busyDay, x -> x.breach(2, 3, 0));
    }

    private static void twelvePeople(Auction x) {
        x.joinAll(90, 91, 92, 93, 94, 95, 96, 97, 98, 99, 100, 101);
    }

    /** The last person won the last slot for quiet; for the next day there are bids that this person wins and loses. */
    private static void dayOfTheLast(Auction x) {
        twelvePeople(x);
        x.bid(11, 3, 23, QUIET, 30);
        x.bid(10, 3, 23, NOISE, 20);
        x.settle();
        x.bid(11, 3, 23, QUIET, 9);
        x.bid(10, 3, 23, NOISE, 11);
        x.bid(11, 3, 22, NOISE, 5);
        x.write("n3:23=8;q3:20-22=1;");
    }

    private static void debtOfTheLast(Auction x) {
        twelvePeople(x);
        x.pay(11, -101);
        x.breach(11, 2, 2);
    }

    /** The last person, the last slot and the last street are the ends of what a state keeps. */
    @Says(in = "Undo", words = "a state is everything but the text, the failure and the history.")
    void theLastOfAllIsAPartOfAState() {
        isAnAction(UndoBoundsTest::dayOfTheLast, x -> x.settle());
        isAnAction(UndoBoundsTest::dayOfTheLast, x -> x.bid(11, 3, 23, NOISE, 1));
        isAnAction(UndoBoundsTest::dayOfTheLast, x -> x.pay(11, 7));
        isAnAction(UndoBoundsTest::dayOfTheLast, x -> x.breach(11, 3, 23));
        isAnAction(UndoBoundsTest::dayOfTheLast, x -> x.run(11));
        isAnAction(UndoBoundsTest::debtOfTheLast, x -> x.breach(11, 1, 1));
        isAnAction(UndoBoundsTest::debtOfTheLast, x -> x.breach(11, 3, 1));
        isAnAction(UndoBoundsTest::debtOfTheLast, x -> x.pay(11, 3));
    }

    // ---- what is recorded

    @Says(in = "Undo", words = "Every successful call of a method that is called an action records the state before it (also "
        + "if nothing changes by it);")
    void actionsWithoutAnEffectAreRecorded() {
        isAnAction(x -> x.joinAll(5), x -> x.pay(0, 0));
        isAnAction(x -> x.joinAll(5), x -> x.bid(0, 0, 0, QUIET, 0));
        isAnAction(x -> x.joinAll(5), x -> x.setFine(20));
        isAnAction(x -> x.joinAll(5), x -> x.run(0));
        Auction.Story oneBid = x -> {
            x.joinAll(5);
            x.bid(0, 0, 0, QUIET, 2);
            x.write("q0:0=2;");
        };
        isAnAction(oneBid, x -> x.bid(0, 0, 0, QUIET, 2));
        isAnAction(oneBid, x -> x.run(0));
    }

    /** A debt, a slot that belongs to noise, and a text that fails; and there is room in the history. */
    private static void fourStates(Auction x) {
        x.join(5);
        x.bid(0, 3, 23, NOISE, 1);
        x.settle();
        x.breach(0, 0, 0);
        x.write("n");
    }

    @Says(in = "Undo", words = "Every successful call of a method that is called an action records the state before it")
    void noOtherCallIsRecorded() {
        Auction.Call[] others = {
            x -> x.append('q'), x -> x.append(0), x -> x.clearText(), x -> x.run(0), x -> x.run(1), x -> x.failure(0),
            x -> x.count(0), x -> x.person(0, 0), x -> x.slot(0, 0, 0), x -> x.bidOf(0, 0, 0), x -> x.fund(0),
            x -> x.winner(0, 0), x -> x.needed(0, 0, 0), x -> x.quiet(0, 0), x -> x.purseThen(0),
            x -> x.join(-1), x -> x.pay(0, -1), x -> x.bid(0, 0, 0, 0, 0), x -> x.setFine(-1), x -> x.breach(0, 3, 23)};
        for (Auction.Call other : others) {
            isNoAction(UndoBoundsTest::fourStates, other);
        }
        Auction x = auctionAfter(UndoBoundsTest::fourStates);
        x.due(x.undo(), 3);
        x.due(x.undo(), 2);
        x.due(x.count(8), 2);
    }

    @Says(in = "Undo", words = "when a sixth one is recorded, the oldest one is dropped.")
    void theSixthDropsTheOldest() {
        Auction five = auction(0, 1, 2, 3, 4);
        for (int left = 4; left >= 0; left--) {
            five.due(five.undo(), left);
        }
        five.due(five.count(1), 0);
        Auction six = auction(0, 1, 2, 3, 4, 5);
        for (int left = 4; left >= 0; left--) {
            six.due(six.undo(), left);
        }
        six.due(six.count(1), 1);
        six.due(six.undo(), ILLEGAL);
        // Three times around.
        Auction many = auction(1000);
        for (int action = 1; action <= 17; action++) {
            many.pay(0, 1);
        }
        for (int left = 4; left >= 0; left--) {
            many.due(many.undo(), left);
            many.due(many.person(0, 0), 1012 + left);
        }
        many.due(many.undo(), ILLEGAL);
    }

    @Says(in = "Undo", words = "undo() removes the latest state from the history and restores it.")
    @Says(in = "Promise 8", words = {"Removes the latest state from the history and restores it.",
        "Returns the number of states that are left in the history;"})
    void undoRestoresTheLatestState() {
        Auction x = auction(100, 100);
        x.bid(0, 0, 0, QUIET, 8);
        x.bid(1, 0, 0, NOISE, 9);
        x.settle();
        x.due(x.slot(0, 0, 0), NOISE);
        x.due(x.undo(), 4);
        x.due(x.slot(0, 0, 0), QUIET);
        x.due(x.count(0), 0);
        x.due(x.person(0, 0), 100);
        x.due(x.undo(), 3);
        x.due(x.bidOf(1, 0, 0), NONE);
        x.due(x.bidOf(0, 0, 0), 8);
        x.due(x.undo(), 2);
        x.due(x.count(2), 0);
        x.due(x.undo(), 1);
        x.due(x.count(1), 1);
        x.due(x.undo(), 0);
        x.due(x.count(1), 0);
    }

    @Says(in = "Promise 8", words = "ILLEGAL_STATE if it is empty.")
    void anEmptyHistory() {
        refused(ILLEGAL, NOTHING, x -> x.undo());
        Auction.Story allUndone = x -> {
            busyDay(x);
            for (int times = 0; times < 5; times++) {
                x.undo();
            }
        };
        refused(ILLEGAL, allUndone, x -> x.undo());
        Auction one = auction(4);
        one.due(one.undo(), 0);
        one.due(one.undo(), ILLEGAL);
        one.due(one.join(4), 0);
        one.due(one.undo(), 0);
    }

    // ---- errors

    @Says(in = "Errors", words = "A call that returns an error code changes nothing (a failure of a plan is kept, however).")
    void anErrorChangesNothing() {
        leavesNoTrace(MarkedTests::busyDay, x -> x.join(-1), x -> x.pay(0, -9999), x -> x.bid(2, 0, 0, 0, 1),
            x -> x.bid(0, 0, 0, 0, 1000), x -> x.setFine(1001), x -> x.breach(0, 3, 23), x -> x.append(256), x -> x.run(3),
            x -> x.failure(5), x -> x.count(10), x -> x.person(3, 0), x -> x.slot(0, 0, 6), x -> x.bidOf(0, 4, 0),
            x -> x.fund(4), x -> x.winner(0, 24), x -> x.needed(0, 0, 2), x -> x.quiet(0, 3), x -> x.purseThen(3));
        leavesNoTraceButFailure(MarkedTests::busyDay, x -> x.run(2));
        Auction x = auctionAfter(MarkedTests::busyDay);
        x.failureIs(1, 8, 0, 0, NONE);
        x.append('1');
        x.run(0);
        x.failureIs(1, 9, 0, 0, NONE);
        x.run(3);
        x.failureIs(1, 9, 0, 0, NONE);
    }

    private static void twelveAndAFullText(Auction x) {
        x.joinAll(1, 2, 3, 4, 5, 6, 7, 8, 9, 10, 11, 12);
        for (int length = 0; length < 100; length++) {
            x.append('x');
        }
    }

    @Says(in = "Errors", words = "If several error conditions apply, the method returns the one that its description lists "
        + "first;")
    void theFirstErrorIsReturned() {
        // CAPACITY_EXCEEDED would apply too.
        refused(INVALID, UndoBoundsTest::twelveAndAFullText, x -> x.join(100001), x -> x.join(-1), x -> x.append(0),
            x -> x.append(256));
        refused(FULL, UndoBoundsTest::twelveAndAFullText, x -> x.join(0), x -> x.append(255));
        // ILLEGAL_STATE would apply too: of person 2 there is a debt, and slot 3, 23 belongs to noise.
        refused(INVALID, MarkedTests::busyDay, x -> x.pay(2, -100001), x -> x.bid(2, 4, 0, 0, 1), x -> x.bid(2, 0, 24, 0, 1),
            x -> x.bid(2, 0, 0, 2, 1), x -> x.bid(2, 0, 0, 0, 1000), x -> x.breach(3, 3, 23));
        // The failure of the text would apply too.
        Auction.Story faulty = x -> {
            x.joinAll(1);
            x.write("x");
        };
        refused(INVALID, faulty, x -> x.run(1), x -> x.run(-1));
        // Of the errors of a bid that fails a plan, too.
        Auction x = auction(0);
        x.breach(0, 0, 0);
        x.due(x.runText(0, "2*(q0:0=500;)"), -1003);
        x.failureIs(2, 3, 1, 0, INVALID);
    }

    @Says(in = "Errors", words = "NONE is no error, and it is returned only if no error condition applies.")
    @Says(in = "Errors", words = "NONE = -9: There is no such value.")
    void noneComesLast() {
        refused(NONE, UndoBoundsTest::twelveAndAFullText, x -> x.failure(0), x -> x.failure(4), x -> x.bidOf(0, 0, 0));
        refused(INVALID, UndoBoundsTest::twelveAndAFullText, x -> x.failure(-1), x -> x.failure(5), x -> x.bidOf(12, 0, 0),
            x -> x.bidOf(0, 4, 0), x -> x.bidOf(0, 0, 24));
        Auction.Story noisyStreet = x -> {
            x.joinAll(100);
            x.runText(0, "n1:0-23=1;");
            x.settle();
        };
        refused(NONE, noisyStreet, x -> x.quiet(1, 2));
        refused(INVALID, noisyStreet, x -> x.quiet(1, 3), x -> x.quiet(4, 2), x -> x.quiet(-1, 2));
    }

    @Says(in = "Errors", words = {
        "The constants: INVALID_ARGUMENT = -1: An argument is out of range, or names something that does not exist.",
        "ILLEGAL_STATE = -2: The call is not possible in the present state.",
        "CAPACITY_EXCEEDED = -3: There is no room."})
    void theConstants() {
        Auction x = auction();
        x.due(SilenceHours.INVALID_ARGUMENT, -1);
        x.due(SilenceHours.ILLEGAL_STATE, -2);
        x.due(SilenceHours.CAPACITY_EXCEEDED, -3);
        x.due(SilenceHours.NONE, -9);
        x.due(x.join(-1), SilenceHours.INVALID_ARGUMENT);
        x.due(x.person(0, 0), SilenceHours.INVALID_ARGUMENT);
        x.due(x.undo(), SilenceHours.ILLEGAL_STATE);
        x.due(x.failure(0), SilenceHours.NONE);
        twelveAndAFullText(x);
        x.due(x.join(0), SilenceHours.CAPACITY_EXCEEDED);
    }
}
