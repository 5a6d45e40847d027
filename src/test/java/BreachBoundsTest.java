/** The sentences on breaches, and those of promise 7. */
final class BreachBoundsTest extends MarkedTests {
    public static void main(String[] arguments) {
        new BreachBoundsTest().runAll();
    }

    @Says(in = "Breaches", words = "A breach by a person is noted for a slot that belongs to quiet.")
    void aBreachIsNoted() {
        Auction x = auction(50, 50);
        x.due(x.count(7), 0);
        x.breach(1, 0, 0);
        x.breach(1, 3, 23);
        x.due(x.count(7), 2);
        x.due(x.person(0, 7), 0);
        x.due(x.person(1, 7), 2);
        x.setFine(0);
        x.due(x.breach(0, 0, 0), 0);
        x.due(x.count(7), 3);
        x.due(x.person(0, 7), 1);
    }

    // ---- the fine

    private void fineIs(int fine, int purse, int bid, int paid, int debt) {
        Auction x = auction(purse);
        x.setFine(fine);
        x.bid(0, 0, 0, NOISE, bid);
        x.due(x.breach(0, 2, 7), paid);
        x.due(x.person(0, 2), debt);
        x.due(x.person(0, 0), purse - paid);
        x.due(x.person(0, 1), purse - paid - bid);
        x.due(x.fund(2), paid);
        x.due(x.count(5), purse);
        x.due(x.count(6), debt);
    }

    @Says(in = "Breaches", words = "The person owes the fine (0 to 1000; at first 20), pays of it what the free money "
        + "allows, and the rest is added to the debt.")
    void freeMoneyPaysTheFine() {
        Auction x = auction(21);
        x.due(x.count(4), 20);
        x.due(x.breach(0, 0, 0), 20);
        x.due(x.breach(0, 0, 0), 1);
        x.due(x.person(0, 2), 19);
        x.due(x.breach(0, 0, 0), 0);
        x.due(x.person(0, 2), 39);
        fineIs(20, 20, 0, 20, 0);
        fineIs(20, 19, 0, 19, 1);
        fineIs(20, 1, 0, 1, 19);
        fineIs(20, 0, 0, 0, 20);
        fineIs(0, 0, 0, 0, 0);
        fineIs(0, 5, 0, 0, 0);
        fineIs(1000, 1000, 0, 1000, 0);
        fineIs(1000, 999, 0, 999, 1);
        fineIs(1000, 1001, 0, 1000, 0);
        // What is bid is not free.
        fineIs(20, 30, 10, 20, 0);
        fineIs(20, 30, 11, 19, 1);
        fineIs(20, 30, 30, 0, 20);
    }

    @Says(in = "Breaches", words = "pays of it what the free money allows, and the rest is added to the debt.")
    void aDebtorPaysTheNewFineAlone() {
        // A lost bid of 5 is free again, and of the debt of 20 there is some left behind the share of 6.
        Auction x = auction(5, 100);
        x.bid(0, 0, 0, QUIET, 5);
        x.bid(1, 0, 0, NOISE, 6);
        x.breach(0, 1, 0);
        x.settle();
        x.due(x.person(0, 2), 14);
        x.setFine(4);
        x.due(x.breach(0, 1, 0), 4);
        x.due(x.person(0, 2), 14);
        x.due(x.person(0, 0), 1);
        x.due(x.breach(0, 1, 0), 1);
        x.due(x.person(0, 2), 17);
    }

    // ---- who gets it

    /** People win slot 0, 6 for quiet, one bid of 1 each, and another one then breaches its quiet. */
    private void partsAre(int winners, int fine, int part, int leftOver) {
        Auction x = auction(1000);
        for (int winner = 1; winner <= winners; winner++) {
            x.join(1);
            x.bid(winner, 0, 6, QUIET, 1);
        }
        x.settle();
        x.setFine(fine);
        x.due(x.breach(0, 0, 6), fine);
        for (int winner = 1; winner <= winners; winner++) {
            x.due(x.person(winner, 0), part);
        }
        x.due(x.person(0, 0), 1000 - fine);
        x.due(x.fund(0), winners + leftOver);
    }

    @Says(in = "Breaches", words = "in equal parts (whoever they are, the person included);")
    void partsAreEqual() {
        partsAre(1, 20, 20, 0);
        partsAre(2, 20, 10, 0);
        partsAre(2, 1, 0, 1);
        partsAre(3, 20, 6, 2);
        partsAre(3, 2, 0, 2);
        partsAre(3, 3, 1, 0);
        partsAre(3, 4, 1, 1);
        partsAre(11, 10, 0, 10);
        partsAre(11, 11, 1, 0);
        partsAre(11, 21, 1, 10);
        partsAre(11, 22, 2, 0);
        partsAre(11, 1000, 90, 10);
    }

    @Says(in = "Breaches", words = "(whoever they are, the person included);")
    void theOwnPartComesBack() {
        // The larger bid gets no larger part.
        Auction x = auction(30, 21);
        x.bid(0, 0, 6, QUIET, 10);
        x.bid(1, 0, 6, QUIET, 1);
        x.settle();
        x.due(x.breach(0, 0, 6), 20);
        x.due(x.person(0, 0), 10);
        x.due(x.person(1, 0), 30);
        // 10 are paid, 10 are owed, and the own part of 5 is taken for what is owed.
        x.due(x.breach(0, 0, 6), 10);
        x.due(x.person(0, 0), 0);
        x.due(x.person(0, 2), 5);
        x.due(x.person(1, 0), 35);
        x.due(x.fund(0), 11 + 5);
        // The own fine of one who alone has won comes back whole.
        Auction alone = auction(30);
        alone.bid(0, 0, 6, QUIET, 10);
        alone.settle();
        alone.due(alone.breach(0, 0, 6), 20);
        alone.due(alone.person(0, 0), 20);
        alone.due(alone.fund(0), 10);
    }

    @Says(in = "Breaches", words = "Then what is paid goes to those who won this slot for quiet when it was settled with "
        + "bids last, if quiet won then,")
    void theLatestWinnersGetIt() {
        Auction x = auction(100, 100, 1000);
        x.bid(0, 0, 6, QUIET, 1);
        x.bid(1, 0, 7, QUIET, 1);
        x.bid(1, 1, 6, QUIET, 1);
        x.due(x.breach(2, 0, 6), 20);
        // The bids are not settled yet, so the fund got it.
        x.due(x.person(0, 0), 100);
        x.settle();
        x.breach(2, 0, 6);
        x.due(x.person(0, 0), 119);
        // Days without bids keep the winners.
        x.settle();
        x.settle();
        x.breach(2, 0, 6);
        x.due(x.person(0, 0), 139);
        x.due(x.person(1, 0), 98);
        // Other winners take their place.
        x.bid(1, 0, 6, QUIET, 1);
        x.settle();
        x.breach(2, 0, 6);
        x.due(x.person(0, 0), 139);
        x.due(x.person(1, 0), 117);
    }

    @Says(in = "Breaches", words = "if quiet won then,")
    void losersAndWinnersForNoiseGetNothing() {
        Auction x = auction(100, 100, 1000);
        x.bid(0, 0, 6, QUIET, 6);
        x.bid(1, 0, 6, NOISE, 5);
        x.settle();
        x.breach(2, 0, 6);
        x.due(x.person(0, 0), 94 + 20);
        x.due(x.person(1, 0), 106);
        x.bid(0, 0, 6, QUIET, 6);
        x.bid(1, 0, 6, NOISE, 7);
        x.settle();
        x.due(x.breach(2, 0, 6), ILLEGAL);
        // The carried quiet of 3 wins alone, so nobody has won for quiet.
        x.bid(1, 0, 6, NOISE, 2);
        x.settle();
        int fund = x.fund(0);
        int[] before = {x.person(0, 0), x.person(1, 0)};
        x.due(x.breach(2, 0, 6), 20);
        x.due(x.person(0, 0), before[0]);
        x.due(x.person(1, 0), before[1]);
        x.due(x.fund(0), fund + 20);
    }

    @Says(in = "Breaches", words = "what is left over, or all if there are none, goes to the fund of the street.")
    void theFundGetsTheRest() {
        partsAre(0, 20, 0, 20);
        partsAre(0, 0, 0, 0);
        partsAre(7, 20, 2, 6);
        partsAre(7, 6, 0, 6);
        for (int street = 0; street < 4; street++) {
            Auction x = auction(100);
            x.breach(0, street, 23);
            x.due(x.fund(street), 20);
        }
    }

    // ---- debts

    @Says(in = "Breaches", words = "A person with a debt cannot bid (but bids that there are stay).")
    void debtorsCannotBid() {
        Auction.Story debtOf1 = x -> {
            x.joinAll(24);
            x.bid(0, 1, 1, NOISE, 5);
            x.breach(0, 0, 0);
        };
        Auction x = auctionAfter(debtOf1);
        x.due(x.person(0, 2), 1);
        x.due(x.bidOf(0, 1, 1), 1005);
        refused(ILLEGAL, debtOf1, y -> y.bid(0, 1, 1, NOISE, 5), y -> y.bid(0, 1, 1, NOISE, 0));
        x.settle();
        x.due(x.person(0, 4), 1);
        x.due(x.slot(1, 1, 0), NOISE);
        x.pay(0, 1);
        x.due(x.bid(0, 1, 1, NOISE, 0), 0);
        // A fine that is paid whole leaves no debt.
        Auction paid = auction(25);
        paid.bid(0, 1, 1, NOISE, 5);
        paid.breach(0, 0, 0);
        paid.due(paid.bid(0, 1, 1, NOISE, 4), 1);
    }

    /** Person 0, with a debt of 20 from street 3, gets money; what the debt, the purse and fund 3 are then. */
    private void debtTakes(Auction x, int debt, int purse, int fund) {
        x.due(x.person(0, 2), debt);
        x.due(x.person(0, 0), purse);
        x.due(x.fund(3), fund);
    }

    private static final String DEBT_FIRST = "Money that comes into the purse of a person with a debt (by pay(), by settling, "
        + "or as a part of a fine) is taken for the debt first,";

    @Says(in = "Breaches", words = DEBT_FIRST)
    void payGoesToTheDebtFirst() {
        int[][] dues = {{0, 20, 0, 0}, {1, 19, 0, 1}, {19, 1, 0, 19}, {20, 0, 0, 20}, {21, 0, 1, 20}, {100000, 0, 99980, 20}};
        for (int[] due : dues) {
            Auction x = auction(0);
            x.breach(0, 3, 4);
            x.due(x.pay(0, due[0]), due[2]);
            debtTakes(x, due[1], due[2], due[3]);
        }
    }

    @Says(in = "Breaches", words = DEBT_FIRST)
    void sharesGoToTheDebtFirst() {
        for (int share = 18; share <= 22; share++) {
            Auction x = auction(1, 100);
            x.bid(0, 1, 1, QUIET, 1);
            x.bid(1, 1, 1, NOISE, share);
            x.breach(0, 3, 4);
            debtTakes(x, 20, 1, 0);
            x.settle();
            debtTakes(x, Math.max(0, 20 - share), 1 + Math.max(0, share - 20), Math.min(20, share));
            x.due(x.person(0, 6), share);
            x.due(x.fund(1), 0);
        }
    }

    @Says(in = "Breaches", words = DEBT_FIRST)
    void partsOfFinesGoToTheDebtFirst() {
        for (int part = 18; part <= 22; part++) {
            Auction x = auction(1, 100);
            x.bid(0, 1, 1, QUIET, 1);
            x.settle();
            x.breach(0, 3, 4);
            x.setFine(part);
            x.breach(1, 1, 1);
            debtTakes(x, Math.max(0, 20 - part), Math.max(0, part - 20), Math.min(20, part));
            x.due(x.person(0, 6), 0);
            x.due(x.fund(1), 1);
        }
    }

    @Says(in = "Breaches", words = "and goes to the fund of the street in which the breach was that was noted last of this "
        + "person.")
    void theStreetOfTheLatestBreach() {
        Auction x = auction(0, 0);
        x.breach(0, 0, 0);
        x.breach(1, 1, 0);
        x.pay(0, 1);
        x.due(x.fund(0), 1);
        x.breach(0, 3, 23);
        x.pay(0, 2);
        x.due(x.fund(3), 2);
        // One with a fine of 0 is noted too.
        x.setFine(0);
        x.breach(0, 2, 5);
        x.pay(0, 4);
        x.due(x.fund(2), 4);
        x.pay(1, 8);
        x.due(x.fund(1), 8);
        x.due(x.fund(0) + x.fund(3), 3);
        // One that is refused is not.
        x.setFine(20);
        x.due(x.breach(0, 4, 0), INVALID);
        x.pay(0, 1);
        x.due(x.fund(2), 5);
    }

    /** A breach is noted before its fine is shared, so a debt of its own is paid to its own street. */
    @Says(in = "Breaches", words = "the fund of the street in which the breach was that was noted last of this person.")
    void theStreetOfTheOwnPart() {
        Auction x = auction(31, 1);
        x.bid(0, 0, 6, QUIET, 1);
        x.bid(1, 0, 6, QUIET, 1);
        x.settle();
        x.due(x.breach(0, 3, 0), 20);
        x.due(x.fund(3), 20);
        // 10 are paid and 10 owed; of the own part of 5 nothing goes to the street of the breach before.
        x.due(x.breach(0, 0, 6), 10);
        x.due(x.person(0, 2), 5);
        x.due(x.fund(3), 20);
        x.due(x.fund(0), 2 + 5);
        x.due(x.person(1, 0), 5);
    }

    // ---- Promise 7

    @Says(in = "Promise 7", words = "Notes a breach. This is an action.")
    void breachIsAnAction() {
        isAnAction(MarkedTests::busyDay, x -> x.breach(0, 1, 1));
        isAnAction(MarkedTests::busyDay, x -> x.breach(2, 0, 0));
        Auction.Story noFine = x -> {
            x.joinAll(0);
            x.setFine(0);
        };
        isAnAction(noFine, x -> x.breach(0, 1, 1));
    }

    @Says(in = "Promise 7", words = {"person: a person", "Returns what is paid of the fine; INVALID_ARGUMENT if an argument "
        + "is out of range;"})
    void peopleWhoCanBreach() {
        Auction x = auction(50, 7, 0);
        x.due(x.breach(0, 0, 0), 20);
        x.due(x.breach(1, 0, 0), 7);
        x.due(x.breach(2, 0, 0), 0);
        invalidOutside(0, 2, MarkedTests::busyDay, (y, person) -> y.breach(person, 0, 0));
        refused(INVALID, NOTHING, y -> y.breach(0, 0, 0));
        // Out of range comes first, also for a slot that belongs to noise.
        refused(INVALID, MarkedTests::busyDay, y -> y.breach(3, 3, 23), y -> y.breach(-1, 3, 23));
    }

    @Says(in = "Promise 7", words = {"street: 0 to 3", "hour: 0 to 23"})
    void slotsThatCanBeBreached() {
        Auction x = auction(50);
        x.due(x.breach(0, 0, 0), 20);
        x.due(x.breach(0, 3, 23), 20);
        invalidOutside(0, 3, MarkedTests::busyDay, (y, street) -> y.breach(0, street, 0));
        invalidOutside(0, 23, MarkedTests::busyDay, (y, hour) -> y.breach(0, 0, hour));
    }

    @Says(in = "Promise 7", words = "ILLEGAL_STATE if the slot belongs to noise.")
    void noBreachOfNoise() {
        Auction x = auctionAfter(MarkedTests::busyDay);
        x.due(x.breach(0, 3, 22), 20);
        x.due(x.breach(0, 2, 23), 20);
        // Bids for noise that are not settled yet do not make it noise.
        x.due(x.winner(1, 12), NOISE);
        x.due(x.breach(0, 1, 12), 20);
        refused(ILLEGAL, MarkedTests::busyDay, y -> y.breach(0, 3, 23), y -> y.breach(2, 3, 23));
        // Nor do bids for quiet make it quiet before the day is settled.
        x.bid(0, 3, 23, QUIET, 50);
        x.due(x.winner(3, 23), QUIET);
        x.due(x.breach(0, 3, 23), ILLEGAL);
        x.settle();
        x.due(x.breach(1, 3, 23), 20);
    }
}
