/** The sentences on settling, and those of promise 6. */
final class SettlingBoundsTest extends MarkedTests {
    public static void main(String[] arguments) {
        new SettlingBoundsTest().runAll();
    }

    /** Settles bids for slot 1, 5 of two people, 0 for quiet and 1 for noise; an amount of 0 is no bid. */
    private static void day(Auction x, int quiet, int noise) {
        x.bid(0, 1, 5, QUIET, quiet);
        x.bid(1, 1, 5, NOISE, noise);
        x.settle();
    }

    private void sideIs(Auction x, int side) {
        x.due(x.slot(1, 5, 0), side);
    }

    private void carriedIs(Auction x, int carried) {
        x.due(x.slot(1, 5, 3), carried);
    }

    @Says(in = "Settling", words = "When a day is settled, all slots are gone through, street by street, and in each street "
        + "hour by hour:")
    void allSlotsAreSettled() {
        Auction x = auction(1000);
        x.due(x.runText(0, "n0:0-23=1;n1:0-23=2;n2:0-23=3;n3:0-23=4;"), 96);
        x.due(x.settle(), 96);
        for (int street = 0; street < 4; street++) {
            x.due(x.fund(street), 24 * (street + 1));
            for (int hour = 0; hour < 24; hour++) {
                x.due(x.slot(street, hour, 0), NOISE);
                x.due(x.slot(street, hour, 5), street + 1);
            }
        }
        x.due(x.person(0, 0), 760);
        x.due(x.person(0, 4), 96);
    }

    // ---- a slot without bids

    @Says(in = "Settling", words = "If there is no bid for the slot, it stays with its side, and its carried quiet becomes "
        + "half of what it was.")
    void slotsWithoutBids() {
        Auction x = auction(100, 100);
        x.settle();
        sideIs(x, QUIET);
        carriedIs(x, 0);
        day(x, 14, 15);
        int[] halves = {7, 3, 1, 0, 0};
        for (int half : halves) {
            sideIs(x, NOISE);
            carriedIs(x, half);
            x.settle();
        }
        sideIs(x, NOISE);
        day(x, 1, 0);
        x.settle();
        sideIs(x, QUIET);
        carriedIs(x, 0);
    }

    // ---- strengths

    /** On day 0 noise wins with 11 to 10, so that 5 are carried on, and a tie goes to quiet. */
    private Auction with5Carried() {
        Auction x = auction(100, 100, 100, 100);
        day(x, 10, 11);
        carriedIs(x, 5);
        x.bid(0, 1, 5, QUIET, 3);
        x.bid(2, 1, 5, QUIET, 4);
        return x;
    }

    @Says(in = "Settling", words = "Otherwise the strength of quiet is the sum of the bids for quiet and the carried quiet, "
        + "and the strength of noise is the sum of the bids for noise.")
    void strengthsAreSums() {
        int[] noiseOf3 = {4, 5, 6};
        int[] winners = {QUIET, QUIET, NOISE};
        int[] carriedThen = {0, 0, 6};
        for (int i = 0; i < noiseOf3.length; i++) {
            // 3 + 4 + 5 against 11, 12 and 13.
            Auction x = with5Carried();
            x.bid(1, 1, 5, NOISE, 7);
            x.bid(3, 1, 5, NOISE, noiseOf3[i]);
            x.settle();
            sideIs(x, winners[i]);
            carriedIs(x, carriedThen[i]);
        }
        // Carried quiet alone: 5 against 4, 5 and 6.
        int[] winnersWithoutQuietBids = {QUIET, QUIET, NOISE};
        for (int i = 0; i < winnersWithoutQuietBids.length; i++) {
            Auction x = auction(100, 100);
            day(x, 10, 11);
            day(x, 0, 4 + i);
            sideIs(x, winnersWithoutQuietBids[i]);
        }
    }

    // ---- who wins

    @Says(in = "Settling", words = {"The side with the greater strength wins;", "The slot belongs to the winner."})
    void oneMoreWins() {
        int[][] bids = {{1, 0, QUIET}, {0, 1, NOISE}, {5, 6, NOISE}, {6, 5, QUIET}, {998, 999, NOISE}, {999, 998, QUIET}};
        for (int[] bid : bids) {
            Auction x = auction(1000, 1000);
            day(x, bid[0], bid[1]);
            sideIs(x, bid[2]);
            Auction behindQuiet = auction(2000, 2000);
            day(behindQuiet, 1, 0);
            day(behindQuiet, bid[0], bid[1]);
            sideIs(behindQuiet, bid[2]);
            Auction behindNoise = auction(2000, 2000);
            day(behindNoise, 0, 1);
            day(behindNoise, bid[0], bid[1]);
            sideIs(behindNoise, bid[2]);
        }
    }

    @Says(in = "Settling", words = "if both are the same, the side wins that did not win when there were bids for this slot "
        + "last (quiet, if there never were any).")
    void tiesGoToTheSideThatDidNotWin() {
        Auction first = auction(100, 100);
        first.settle();
        day(first, 5, 5);
        sideIs(first, QUIET);
        day(first, 5, 5);
        sideIs(first, NOISE);
        // 2 are carried on: the bids tie with 3 to 5.
        day(first, 3, 5);
        sideIs(first, QUIET);
        day(first, 4, 4);
        sideIs(first, NOISE);
        Auction behindNoise = auction(100, 100);
        day(behindNoise, 0, 1);
        day(behindNoise, 5, 5);
        sideIs(behindNoise, QUIET);
    }

    @Says(in = "Settling", words = "the side wins that did not win when there were bids for this slot last")
    void tiesDoNotCountOtherDaysOrSlots() {
        // Days without bids, bids that are taken back, and other slots make no difference.
        Auction x = auction(100, 100);
        day(x, 1, 0);
        x.settle();
        x.bid(1, 1, 5, NOISE, 1);
        x.bid(1, 1, 5, NOISE, 0);
        x.bid(1, 1, 4, NOISE, 1);
        x.bid(1, 1, 6, NOISE, 1);
        x.bid(1, 0, 5, NOISE, 1);
        x.bid(1, 2, 5, NOISE, 1);
        x.settle();
        day(x, 5, 5);
        sideIs(x, NOISE);
        x.settle();
        x.settle();
        x.settle();
        carriedIs(x, 0);
        day(x, 5, 5);
        sideIs(x, QUIET);
    }

    // ---- money

    @Says(in = "Settling", words = "Those who bid for the winner pay their bids.")
    void winnersPay() {
        Auction x = auction(50, 50, 50, 50, 50);
        x.bid(0, 3, 0, NOISE, 1);
        x.bid(1, 3, 0, NOISE, 49);
        x.bid(2, 3, 0, QUIET, 25);
        x.bid(3, 3, 0, QUIET, 25);
        x.settle();
        int[] won = {0, 0, 1, 1, 0};
        int[] paid = {0, 0, 25, 25, 0};
        for (int person = 0; person < 5; person++) {
            x.due(x.person(person, 4), won[person]);
            x.due(x.person(person, 5), paid[person]);
        }
        x.due(x.person(2, 0), 25);
        x.due(x.person(4, 0), 50);
        x.due(x.slot(3, 0, 5), 50);
        Auction allOfIt = auction(999);
        allOfIt.bid(0, 0, 0, QUIET, 999);
        allOfIt.settle();
        allOfIt.due(allOfIt.person(0, 0), 0);
    }

    /** Noise of a person 0 wins against quiet of the others; their shares and what is left over are due. */
    private void noiseShares(int noise, int[] quiet, int[] shares, int leftOver) {
        Auction x = auction(1000);
        x.bid(0, 2, 9, NOISE, noise);
        for (int i = 0; i < quiet.length; i++) {
            x.join(1000);
            x.bid(i + 1, 2, 9, QUIET, quiet[i]);
        }
        x.due(x.settle(), 1);
        for (int i = 0; i < shares.length; i++) {
            x.due(x.person(i + 1, 6), shares[i]);
            x.due(x.person(i + 1, 0), 1000 + shares[i]);
        }
        x.due(x.fund(2), leftOver);
        x.due(x.person(0, 0), 1000 - noise);
        x.due(x.person(0, 6), 0);
    }

    @Says(in = "Settling", words = "What they pay together is shared among those who bid for the other side: each gets this "
        + "sum times the own bid divided by the sum of all bids for the other side;")
    void losersShare() {
        noiseShares(2, new int[] {1}, new int[] {2}, 0);
        noiseShares(9, new int[] {2, 1}, new int[] {6, 3}, 0);
        noiseShares(10, new int[] {2, 1}, new int[] {6, 3}, 1);
        noiseShares(11, new int[] {2, 1}, new int[] {7, 3}, 1);
        noiseShares(999, new int[] {997, 1}, new int[] {997, 1}, 1);
        noiseShares(999, new int[] {499, 498}, new int[] {500, 498}, 1);
    }

    @Says(in = "Settling", words = "each gets this sum times the own bid divided by the sum of all bids for the other side;")
    void sharesOfLittleAndOfMuch() {
        // Quiet wins with 1 and 10 of carried quiet: 1 * 5 / 10 is 0 for each.
        Auction little = auction(100, 100, 100);
        little.bid(0, 1, 5, QUIET, 20);
        little.bid(1, 1, 5, NOISE, 21);
        little.settle();
        little.bid(0, 1, 5, QUIET, 1);
        little.bid(1, 1, 5, NOISE, 5);
        little.bid(2, 1, 5, NOISE, 5);
        little.due(little.settle(), 0);
        little.due(little.person(1, 6), 0);
        little.due(little.person(2, 6), 0);
        little.due(little.fund(1), 1);
        // Carried quiet is no bid: the only bidder for quiet gets all.
        Auction all = auction(100, 100);
        day(all, 8, 9);
        day(all, 2, 7);
        all.due(all.person(0, 6), 9 + 7);
        // The greatest sum, 11 * 999, times the greatest bid.
        Auction much = auction(1000, 1000, 1000, 1000, 1000, 1000, 1000, 1000, 1000, 1000, 1000, 1000);
        for (int person = 0; person < 12; person++) {
            much.bid(person, 0, 0, person == 4 ? QUIET : NOISE, 999);
        }
        much.settle();
        much.due(much.person(4, 6), 10989);
        much.due(much.person(4, 0), 11989);
        much.due(much.slot(0, 0, 5), 10989);
        much.due(much.fund(0), 0);
    }

    @Says(in = "Settling", words = "what is left over, or all if nobody bid for the other side, goes to the fund of the "
        + "street.")
    void theFundGetsTheRest() {
        noiseShares(5, new int[] {1, 1, 1}, new int[] {1, 1, 1}, 2);
        noiseShares(6, new int[] {1, 1, 1}, new int[] {2, 2, 2}, 0);
        noiseShares(7, new int[] {}, new int[] {}, 7);
        // The most that can be left over: 11 losers, each a little short of one more.
        noiseShares(21, new int[] {1, 1, 1, 1, 1, 1, 1, 1, 1, 1, 1}, new int[] {1, 1, 1, 1, 1, 1, 1, 1, 1, 1, 1}, 10);
        Auction alone = auction(100, 100);
        day(alone, 7, 0);
        alone.due(alone.fund(1), 7);
        alone.due(alone.fund(0) + alone.fund(2) + alone.fund(3), 0);
        // Carried quiet wins alone: nobody pays, and nobody gets anything.
        Auction nobodyPays = auction(100, 100);
        day(nobodyPays, 8, 9);
        day(nobodyPays, 0, 3);
        sideIs(nobodyPays, QUIET);
        nobodyPays.due(nobodyPays.slot(1, 5, 5), 0);
        nobodyPays.due(nobodyPays.person(1, 6), 0);
        nobodyPays.due(nobodyPays.fund(1), 0);
    }

    // ---- what is carried on

    @Says(in = "Settling", words = "If noise has won, the carried quiet becomes half of the strength of quiet; otherwise it "
        + "becomes 0.")
    void halfOfTheStrengthIsCarried() {
        int[] halves = {0, 0, 1, 1, 2, 2};
        for (int quiet = 0; quiet < halves.length; quiet++) {
            Auction x = auction(100, 100);
            day(x, quiet, quiet + 1);
            carriedIs(x, halves[quiet]);
        }
        // The strength holds the carried quiet too: 3 of 6 bid, then (2 + 3) / 2, then (0 + 2) / 2.
        Auction again = auction(100, 100);
        day(again, 6, 7);
        carriedIs(again, 3);
        day(again, 2, 6);
        carriedIs(again, 2);
        day(again, 0, 3);
        carriedIs(again, 1);
        day(again, 1, 2);
        sideIs(again, QUIET);
        carriedIs(again, 0);
    }

    @Says(in = "Settling", words = "Then there are no bids, and it is the next day.")
    void thenThereAreNoBids() {
        Auction x = auction(1000, 1000);
        x.runText(0, "q0:0-23=1;q3:0-23=2;");
        x.runText(1, "n0:0-23=2;n3:0-23=1;");
        x.due(x.count(2), 96);
        x.settle();
        x.due(x.count(0), 1);
        x.due(x.count(2), 0);
        for (int person = 0; person < 2; person++) {
            x.due(x.person(person, 3), 0);
            x.due(x.person(person, 1), x.person(person, 0));
            x.due(x.bidOf(person, 0, 0), NONE);
            x.due(x.bidOf(person, 3, 23), NONE);
        }
        x.due(x.slot(0, 0, 4), 0);
        x.due(x.slot(3, 23, 1) + x.slot(3, 23, 2), 0);
    }

    // ---- Promise 6

    @Says(in = "Promise 6", words = "Settles the day. This is an action.")
    void settleIsAnAction() {
        isAnAction(NOTHING, x -> x.settle());
        isAnAction(MarkedTests::busyDay, x -> x.settle());
    }

    @Says(in = "Promise 6", words = "Returns the number of slots that belong to noise then;")
    void settleTellsTheNoisySlots() {
        Auction x = auction(1000, 1000);
        x.due(x.settle(), 0);
        x.bid(0, 3, 23, NOISE, 1);
        x.due(x.settle(), 1);
        x.due(x.settle(), 1);
        x.due(x.runText(0, "n0:0-23=1;n1:0-23=1;n2:0-23=1;n3:0-22=1;"), 95);
        x.due(x.settle(), 96);
        x.due(x.settle(), 96);
        x.bid(1, 0, 0, QUIET, 1);
        x.due(x.settle(), 95);
    }

    private static void day999(Auction x) {
        x.joinAll(10, 10);
        for (int day = 0; day < 998; day++) {
            x.settle();
        }
        x.bid(0, 0, 0, NOISE, 1);
        x.settle();
        x.bid(1, 1, 1, NOISE, 2);
    }

    /** No object is promised to see day 999; the words are kept to there too. */
    @Says(in = "Promise 6", words = "ILLEGAL_STATE if it is day 999.")
    void theLastDay() {
        goBeyondThePromise(1003);
        Auction x = auctionAfter(SettlingBoundsTest::day999);
        x.due(x.count(0), 999);
        x.due(x.slot(0, 0, 0), NOISE);
        x.due(x.settle(), ILLEGAL);
        x.due(x.undo(), 4);
        x.due(x.undo(), 3);
        x.due(x.count(0), 998);
        x.due(x.settle(), 1);
        refused(ILLEGAL, SettlingBoundsTest::day999, y -> y.settle());
        keepToThePromise();
    }
}
