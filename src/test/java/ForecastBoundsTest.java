/** The sentences of the promises 18 to 21: winner, needed, quiet and purseThen. */
final class ForecastBoundsTest extends MarkedTests {
    public static void main(String[] arguments) {
        new ForecastBoundsTest().runAll();
    }

    /** Bids for slot 1, 5 of two people, 0 for quiet and 1 for noise; an amount of 0 is no bid. */
    private static void bids(Auction x, int quiet, int noise) {
        x.bid(0, 1, 5, QUIET, quiet);
        x.bid(1, 1, 5, NOISE, noise);
    }

    private static void day(Auction x, int quiet, int noise) {
        bids(x, quiet, noise);
        x.settle();
    }

    private void winnerIs(Auction x, int quiet, int noise, int winner) {
        bids(x, quiet, noise);
        x.due(x.winner(1, 5), winner);
    }

    // ---- Promise 18

    @Says(in = "Promise 18", words = {"Tells which side a slot would belong to if the day was settled now.",
        "Returns the side;"})
    void winnersByOne() {
        Auction x = auction(9000, 9000);
        winnerIs(x, 0, 0, QUIET);
        winnerIs(x, 0, 1, NOISE);
        winnerIs(x, 1, 1, QUIET);
        winnerIs(x, 1, 2, NOISE);
        winnerIs(x, 999, 999, QUIET);
        winnerIs(x, 998, 999, NOISE);
        x.due(x.slot(1, 5, 0), QUIET);
        x.due(x.winner(1, 4), QUIET);
        x.due(x.winner(0, 5), QUIET);
        day(x, 1, 0);
        winnerIs(x, 1, 1, NOISE);
        winnerIs(x, 2, 1, QUIET);
        day(x, 10, 11);
        // Noise has won with bids last, and 5 are carried on.
        winnerIs(x, 0, 0, NOISE);
        winnerIs(x, 0, 5, QUIET);
        winnerIs(x, 0, 6, NOISE);
        winnerIs(x, 1, 6, QUIET);
        winnerIs(x, 1, 7, NOISE);
    }

    @Says(in = "Promise 18", words = {"street: 0 to 3", "hour: 0 to 23", "INVALID_ARGUMENT if an argument is out of range."})
    void slotsWithAWinner() {
        Auction x = auctionAfter(MarkedTests::busyDay);
        x.due(x.winner(0, 0), QUIET);
        x.due(x.winner(3, 23), QUIET);
        x.due(x.winner(1, 12), NOISE);
        leavesNoTrace(MarkedTests::busyDay, y -> y.winner(3, 23), y -> y.winner(1, 12));
        invalidOutside(0, 3, MarkedTests::busyDay, (y, street) -> y.winner(street, 0));
        invalidOutside(0, 23, MarkedTests::busyDay, (y, hour) -> y.winner(0, hour));
    }

    // ---- Promise 19

    /** What is needed for each side; with it a new bidder wins the slot, and with one less does not. */
    private void neededIs(Auction x, int forQuiet, int forNoise) {
        x.due(x.needed(1, 5, QUIET), forQuiet);
        x.due(x.needed(1, 5, NOISE), forNoise);
        int newcomer = x.join(1000);
        int side = forQuiet > 0 ? QUIET : NOISE;
        int needed = Math.max(forQuiet, forNoise);
        if (needed > 0 && needed <= 999) {
            x.bid(newcomer, 1, 5, side, needed - 1);
            x.due(x.winner(1, 5), 1 - side);
            x.bid(newcomer, 1, 5, side, needed);
            x.due(x.winner(1, 5), side);
            x.undo();
            x.undo();
        }
        x.undo();
    }

    @Says(in = "Promise 19", words = {"Tells how much more would have to be bid for a side, by a new bidder, so that the slot "
        + "would belong to it if the day was settled now.", "Returns the smallest amount", "0 if it would belong to it "
        + "without;"})
    void neededForASide() {
        Auction x = auction(9000, 9000);
        bids(x, 10, 0);
        neededIs(x, 0, 11);
        bids(x, 10, 9);
        neededIs(x, 0, 2);
        bids(x, 10, 10);
        neededIs(x, 0, 1);
        bids(x, 10, 11);
        neededIs(x, 1, 0);
        bids(x, 10, 12);
        neededIs(x, 2, 0);
        day(x, 10, 9);
        // Now a tie goes to noise.
        bids(x, 10, 0);
        neededIs(x, 0, 10);
        bids(x, 10, 9);
        neededIs(x, 0, 1);
        bids(x, 10, 10);
        neededIs(x, 1, 0);
        bids(x, 10, 11);
        neededIs(x, 2, 0);
    }

    @Says(in = "Promise 19", words = "Returns the smallest amount")
    void neededWithoutBids() {
        Auction x = auction(9000, 9000);
        neededIs(x, 0, 1);
        day(x, 1, 0);
        neededIs(x, 0, 1);
        day(x, 0, 1);
        neededIs(x, 1, 0);
        // Nothing is said of a bid of 0, so it takes 1 also where quiet is carried on.
        day(x, 20, 21);
        x.due(x.slot(1, 5, 3), 10);
        neededIs(x, 1, 0);
        bids(x, 0, 10);
        neededIs(x, 0, 1);
        bids(x, 0, 11);
        neededIs(x, 1, 0);
        bids(x, 0, 12);
        neededIs(x, 2, 0);
        bids(x, 0, 1);
        neededIs(x, 0, 10);
    }

    @Says(in = "Promise 19", words = "(it may be above 999),")
    void neededAbove999() {
        int[] noiseOf3 = {1, 2};
        for (int more : noiseOf3) {
            Auction x = auction(999, 999, 999);
            bids(x, 1, 999);
            x.bid(2, 1, 5, NOISE, more);
            neededIs(x, 998 + more, 0);
        }
        Auction most = auction(999, 999, 999, 999, 999, 999, 999, 999, 999, 999, 999, 999);
        for (int person = 0; person < 12; person++) {
            most.bid(person, 1, 5, QUIET, 999);
            most.bid(person, 1, 6, NOISE, 999);
        }
        most.due(most.needed(1, 5, NOISE), 11989);
        for (int person = 0; person < 12; person++) {
            most.bid(person, 1, 5, NOISE, 999);
        }
        most.due(most.needed(1, 5, QUIET), 11988);
        most.due(most.needed(1, 5, NOISE), 0);
    }

    @Says(in = "Promise 19", words = {"street: 0 to 3", "hour: 0 to 23", "side: 0 for quiet, 1 for noise",
        "INVALID_ARGUMENT if an argument is out of range."})
    void whatCanBeNeeded() {
        Auction x = auctionAfter(MarkedTests::busyDay);
        x.due(x.needed(0, 0, 0), 0);
        x.due(x.needed(0, 0, 1), 1);
        x.due(x.needed(3, 23, 0), 0);
        // 4 are bid for quiet, and 3 carried on; a tie goes to quiet.
        x.due(x.needed(3, 23, 1), 8);
        leavesNoTrace(MarkedTests::busyDay, y -> y.needed(3, 23, 0), y -> y.needed(3, 23, 1), y -> y.needed(0, 0, 1));
        invalidOutside(0, 3, MarkedTests::busyDay, (y, street) -> y.needed(street, 0, 0));
        invalidOutside(0, 23, MarkedTests::busyDay, (y, hour) -> y.needed(0, hour, 0));
        invalidOutside(0, 1, MarkedTests::busyDay, (y, side) -> y.needed(0, 0, side));
    }

    // ---- Promise 20

    private void quietIs(String noisyHours, int street, int hours, int longest, int first) {
        Auction x = auction(1000);
        x.runText(0, noisyHours);
        x.due(x.quiet(street, 0), 24);
        x.settle();
        x.due(x.quiet(street, 0), hours);
        x.due(x.quiet(street, 1), longest);
        x.due(x.quiet(street, 2), first);
    }

    @Says(in = "Promise 20", words = {"Tells something of the quiet of a street.",
        "what: 0 the hours that belong to quiet, 1 the longest run of these hours one behind the other", "2 the first hour of "
        + "this run,", "Returns it;"})
    void runsOfQuiet() {
        quietIs("", 0, 24, 24, 0);
        quietIs("n0:0=1;", 0, 23, 23, 1);
        quietIs("n0:23=1;", 0, 23, 23, 0);
        quietIs("n3:11=1;", 3, 23, 12, 12);
        quietIs("n3:13=1;", 3, 23, 13, 0);
        quietIs("n3:5=1;n3:17=1;", 3, 22, 11, 6);
        quietIs("n3:0-22=1;", 3, 1, 1, 23);
        quietIs("n3:1-23=1;", 3, 1, 1, 0);
        // The hours of the streets before and behind are none of it.
        quietIs("n2:0=1;n2:23=1;", 2, 22, 22, 1);
        quietIs("n1:0-23=1;n3:0-23=1;", 2, 24, 24, 0);
        // What is bid, and not settled yet, makes no difference.
        Auction x = auction(100);
        x.runText(0, "n0:0-23=1;");
        x.due(x.quiet(0, 0), 24);
        x.due(x.quiet(0, 1), 24);
        x.due(x.quiet(0, 2), 0);
    }

    @Says(in = "Promise 20", words = "(hour 0 is not behind hour 23),")
    void runsEndWithTheDay() {
        quietIs("n1:2-21=1;", 1, 4, 2, 0);
        quietIs("n1:1-20=1;", 1, 4, 3, 21);
        quietIs("n1:3-22=1;", 1, 4, 3, 0);
        quietIs("n1:1-10=1;n1:13-22=1;", 1, 4, 2, 11);
    }

    @Says(in = "Promise 20", words = "of several the first one")
    void theFirstOfSeveralRuns() {
        quietIs("n1:12=1;n1:11=1;", 1, 22, 11, 0);
        quietIs("n1:7=1;n1:15=1;n1:23=1;", 1, 21, 7, 0);
        quietIs("n1:0=1;n1:8=1;n1:16=1;", 1, 21, 7, 1);
        quietIs("n1:0-1=1;n1:3=1;n1:5-23=1;", 1, 2, 1, 2);
        quietIs("n1:1=1;n1:4=1;n1:7-23=1;", 1, 5, 2, 2);
    }

    @Says(in = "Promise 20", words = "(NONE if no hour belongs to quiet)")
    void noHourOfQuiet() {
        quietIs("n1:0-23=1;", 1, 0, 0, NONE);
        quietIs("n1:0-22=1;", 1, 1, 1, 23);
        quietIs("n0:0-23=1;n1:0-23=1;n2:0-23=1;n3:0-23=1;", 3, 0, 0, NONE);
    }

    @Says(in = "Promise 20", words = {"street: 0 to 3", "INVALID_ARGUMENT if an argument is out of range."})
    void streetsThatThereAre() {
        Auction x = auctionAfter(MarkedTests::busyDay);
        x.due(x.quiet(0, 0), 24);
        x.due(x.quiet(3, 0), 23);
        leavesNoTrace(MarkedTests::busyDay, y -> y.quiet(0, 0), y -> y.quiet(3, 1), y -> y.quiet(3, 2));
        invalidOutside(0, 3, MarkedTests::busyDay, (y, street) -> y.quiet(street, 0));
        invalidOutside(0, 2, MarkedTests::busyDay, (y, what) -> y.quiet(0, what));
    }

    // ---- Promise 21

    /** The forecasts are held against what the purses are when the day has been settled. */
    private void pursesThenAre(Auction x, int... purses) {
        for (int person = 0; person < purses.length; person++) {
            x.due(x.purseThen(person), purses[person]);
        }
        x.settle();
        for (int person = 0; person < purses.length; person++) {
            x.due(x.person(person, 0), purses[person]);
        }
    }

    @Says(in = "Promise 21", words = {"Tells what a person would have in the purse if the day was settled now.",
        "Returns the purse;"})
    void pursesThen() {
        pursesThenAre(auction(0, 100000), 0, 100000);
        Auction x = auction(100, 100, 999);
        bids(x, 4, 9);
        x.bid(2, 1, 5, QUIET, 3);
        x.bid(0, 3, 23, NOISE, 50);
        x.bid(2, 3, 23, QUIET, 51);
        // 1 pays 9, of which 0 gets 5 and 2 gets 3; 2 pays 51, all of which 0 gets.
        pursesThenAre(x, 156, 91, 951);
        Auction allOfIt = auction(999);
        allOfIt.bid(0, 0, 0, NOISE, 999);
        pursesThenAre(allOfIt, 0);
    }

    @Says(in = "Promise 21", words = "Tells what a person would have in the purse if the day was settled now.")
    void pursesOfDebtorsThen() {
        for (int share = 19; share <= 21; share++) {
            Auction x = auction(1, 100);
            bids(x, 1, share);
            x.breach(0, 2, 2);
            pursesThenAre(x, 1 + Math.max(0, share - 20), 100 - share);
        }
    }

    @Says(in = "Promise 21", words = {"person: a person", "INVALID_ARGUMENT if there is no such person."})
    void peopleWithAPurse() {
        Auction x = auctionAfter(MarkedTests::busyDay);
        // 0 lost 10 and won 8 on the first day, and wins slot 3, 23 with 4 to come; 1 wins for noise with 6 to pay.
        x.due(x.purseThen(0), 1000 - 10 + 8 - 4);
        x.due(x.purseThen(1), 500 + 10 - 8 - 6);
        x.due(x.purseThen(2), 0);
        leavesNoTrace(MarkedTests::busyDay, y -> y.purseThen(0), y -> y.purseThen(1), y -> y.purseThen(2));
        invalidOutside(0, 2, MarkedTests::busyDay, (y, person) -> y.purseThen(person));
        refused(INVALID, NOTHING, y -> y.purseThen(0));
    }
}
