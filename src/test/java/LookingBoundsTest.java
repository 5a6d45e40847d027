/** The sentences of the promises 13 to 17: count, person, slot, bidOf and fund. */
final class LookingBoundsTest extends MarkedTests {
    private static final String ALL_SLOTS = "q0:0-23=1;n1:0-23=1;n2:0-23=1;n3:0-23=1;";

    public static void main(String[] arguments) {
        new LookingBoundsTest().runAll();
    }

    /** Twelve people, each with a bid for each slot: for quiet in street 0, for noise in the others. */
    private static void allThatCanBeBid(Auction x) {
        for (int person = 0; person < 12; person++) {
            x.join(100000);
        }
        x.write(ALL_SLOTS);
        for (int person = 0; person < 12; person++) {
            x.run(person);
        }
    }

    // ---- Promise 13

    @Says(in = "Promise 13", words = {"Returns a number.",
        "what: 0 the day, 1 the number of people, 2 of bids, 3 of slots that belong to noise, 4 the fine, "
        + "5 the money of all purses and funds together, 6 the sum of all debts, 7 the number of breaches so far, "
        + "8 of states in the history, 9 the length of the text", "Returns the number;"})
    void countsOfAnEmptyAndOfAFullAuction() {
        int[] empty = {0, 0, 0, 0, 20, 0, 0, 0, 0, 0};
        Auction x = auction();
        for (int what = 0; what < empty.length; what++) {
            x.due(x.count(what), empty[what]);
        }
        Auction full = auctionAfter(LookingBoundsTest::allThatCanBeBid);
        int[] fullCounts = {0, 12, 1152, 0, 20, 1200000, 0, 0, 5, 40};
        for (int what = 0; what < fullCounts.length; what++) {
            full.due(full.count(what), fullCounts[what]);
        }
        full.settle();
        full.setFine(1000);
        full.breach(0, 0, 5);
        full.clearText();
        int[] countsThen = {1, 12, 0, 72, 1000, 1200000, 0, 1, 5, 0};
        for (int what = 0; what < countsThen.length; what++) {
            full.due(full.count(what), countsThen[what]);
        }
    }

    @Says(in = "Promise 13", words = {"2 of bids, 3 of slots that belong to noise,", "5 the money of all purses and funds "
        + "together, 6 the sum of all debts, 7 the number of breaches so far,"})
    void countsGoUpAndDown() {
        Auction x = auction(10, 300);
        x.bid(0, 0, 0, NOISE, 9);
        x.bid(1, 0, 0, NOISE, 9);
        x.due(x.count(2), 2);
        x.bid(0, 0, 0, NOISE, 0);
        x.due(x.count(2), 1);
        x.settle();
        x.due(x.count(3), 1);
        x.due(x.count(2), 0);
        x.breach(0, 1, 1);
        x.setFine(1000);
        x.breach(1, 1, 1);
        x.due(x.count(6), 10 + 709);
        x.due(x.count(7), 2);
        x.due(x.count(5), 310);
        x.pay(1, 710);
        x.due(x.count(6), 10);
        x.due(x.count(5), 1020);
        x.pay(1, -1);
        x.due(x.count(5), 1019);
        x.bid(1, 0, 0, QUIET, 0);
        x.undo();
        x.undo();
        x.due(x.count(5), 1020);
    }

    @Says(in = "Promise 13", words = "INVALID_ARGUMENT if what is out of range.")
    void countsThatThereAre() {
        Auction x = auction();
        x.due(x.count(0), 0);
        x.due(x.count(9), 0);
        invalidOutside(0, 9, NOTHING, (y, what) -> y.count(what));
        invalidOutside(0, 9, MarkedTests::busyDay, (y, what) -> y.count(what));
    }

    // ---- Promise 14

    private void personIs(Auction x, int person, int... properties) {
        for (int what = 0; what < properties.length; what++) {
            x.due(x.person(person, what), properties[what]);
        }
    }

    @Says(in = "Promise 14", words = {"Returns a property of a person.",
        "what: 0 the purse, 1 the free money, 2 the debt, 3 the number of bids, 4 of bids that were won so far, "
        + "5 what was paid for these, 6 what was shared out to the person by settling, with what was taken of it for a debt, "
        + "7 breaches so far", "Returns the property;"})
    void propertiesOfAPerson() {
        Auction x = auction(0, 100, 100);
        personIs(x, 0, 0, 0, 0, 0, 0, 0, 0, 0);
        personIs(x, 1, 100, 100, 0, 0, 0, 0, 0, 0);
        x.bid(1, 0, 0, QUIET, 5);
        x.bid(1, 0, 1, NOISE, 6);
        x.bid(1, 0, 2, NOISE, 7);
        x.bid(2, 0, 0, NOISE, 9);
        x.bid(2, 0, 1, QUIET, 3);
        personIs(x, 1, 100, 82, 0, 3, 0, 0, 0, 0);
        x.setFine(90);
        x.breach(1, 3, 3);
        personIs(x, 1, 18, 0, 8, 3, 0, 0, 0, 1);
        // Of a share of 9, 8 are taken for the debt; 6 and 7 are paid.
        x.settle();
        personIs(x, 1, 6, 6, 0, 0, 2, 13, 9, 1);
        personIs(x, 2, 97, 97, 0, 0, 1, 9, 6, 0);
        x.bid(2, 0, 0, NOISE, 4);
        x.settle();
        personIs(x, 2, 93, 93, 0, 0, 2, 13, 6, 0);
        x.undo();
        personIs(x, 2, 97, 93, 0, 1, 1, 9, 6, 0);
    }

    @Says(in = "Promise 14", words = "3 the number of bids, 4 of bids that were won so far, 5 what was paid for these,")
    void aPersonWithAllBids() {
        Auction x = auctionAfter(LookingBoundsTest::allThatCanBeBid);
        personIs(x, 0, 100000, 99904, 0, 96, 0, 0, 0, 0);
        personIs(x, 11, 100000, 99904, 0, 96, 0, 0, 0, 0);
        x.settle();
        personIs(x, 0, 99904, 99904, 0, 0, 96, 96, 0, 0);
        personIs(x, 11, 99904, 99904, 0, 0, 96, 96, 0, 0);
    }

    @Says(in = "Promise 14", words = {"person: a person", "INVALID_ARGUMENT if there is no such person or what is out of "
        + "range."})
    void peopleAndPropertiesThatThereAre() {
        Auction x = auctionAfter(MarkedTests::busyDay);
        x.due(x.person(0, 7), 0);
        x.due(x.person(2, 7), 1);
        invalidOutside(0, 2, MarkedTests::busyDay, (y, person) -> y.person(person, 0));
        invalidOutside(0, 2, MarkedTests::busyDay, (y, person) -> y.person(person, 7));
        invalidOutside(0, 7, MarkedTests::busyDay, (y, what) -> y.person(0, what));
        refused(INVALID, NOTHING, y -> y.person(0, 0));
        refused(INVALID, LookingBoundsTest::allThatCanBeBid, y -> y.person(12, 0));
    }

    // ---- Promise 15

    private void slotIs(Auction x, int street, int hour, int... properties) {
        for (int what = 0; what < properties.length; what++) {
            x.due(x.slot(street, hour, what), properties[what]);
        }
    }

    @Says(in = "Promise 15", words = {"Returns a property of a slot.",
        "what: 0 the side to which it belongs, 1 the sum of the bids for quiet, 2 of those for noise, 3 the carried quiet, "
        + "4 the number of bids, 5 what was paid when it was settled last", "Returns the property;"})
    void propertiesOfASlot() {
        Auction x = auction(2000, 2000, 2000);
        slotIs(x, 0, 0, 0, 0, 0, 0, 0, 0);
        x.bid(0, 0, 0, QUIET, 9);
        x.bid(1, 0, 0, NOISE, 999);
        x.bid(2, 0, 0, NOISE, 1);
        slotIs(x, 0, 0, 0, 9, 1000, 0, 3, 0);
        slotIs(x, 0, 1, 0, 0, 0, 0, 0, 0);
        slotIs(x, 1, 0, 0, 0, 0, 0, 0, 0);
        x.settle();
        slotIs(x, 0, 0, 1, 0, 0, 4, 0, 1000);
        x.bid(2, 0, 0, NOISE, 1);
        slotIs(x, 0, 0, 1, 0, 1, 4, 1, 1000);
        x.bid(2, 0, 0, NOISE, 0);
        slotIs(x, 0, 0, 1, 0, 0, 4, 0, 1000);
        Auction full = auctionAfter(LookingBoundsTest::allThatCanBeBid);
        slotIs(full, 0, 23, 0, 12, 0, 0, 12, 0);
        slotIs(full, 3, 23, 0, 0, 12, 0, 12, 0);
    }

    @Says(in = "Promise 15", words = "(0 without bids then, or if it never was)")
    void whatWasPaidLast() {
        Auction x = auction(2000, 2000);
        x.due(x.slot(2, 2, 5), 0);
        x.bid(0, 2, 2, QUIET, 8);
        x.bid(1, 2, 2, NOISE, 9);
        x.due(x.slot(2, 2, 5), 0);
        x.settle();
        x.due(x.slot(2, 2, 5), 9);
        x.due(x.slot(2, 3, 5), 0);
        // The carried quiet of 4 wins, and nobody pays.
        x.bid(1, 2, 2, NOISE, 4);
        x.settle();
        x.due(x.slot(2, 2, 5), 0);
        x.bid(0, 2, 2, QUIET, 1);
        x.settle();
        x.due(x.slot(2, 2, 5), 1);
        x.settle();
        x.due(x.slot(2, 2, 5), 0);
    }

    @Says(in = "Promise 15", words = {"street: 0 to 3", "hour: 0 to 23", "INVALID_ARGUMENT if an argument is out of range."})
    void slotsAndPropertiesThatThereAre() {
        Auction x = auctionAfter(MarkedTests::busyDay);
        x.due(x.slot(0, 0, 5), 10);
        x.due(x.slot(3, 23, 5), 8);
        invalidOutside(0, 3, MarkedTests::busyDay, (y, street) -> y.slot(street, 0, 0));
        invalidOutside(0, 23, MarkedTests::busyDay, (y, hour) -> y.slot(0, hour, 0));
        invalidOutside(0, 5, MarkedTests::busyDay, (y, what) -> y.slot(0, 0, what));
    }

    // ---- Promise 16

    @Says(in = "Promise 16", words = {"Returns a bid.", "Returns the amount for quiet, or 1000 plus the amount for noise;",
        "NONE without a bid."})
    void amountsOfBids() {
        Auction x = auction(5000, 5000);
        x.bid(0, 0, 0, QUIET, 1);
        x.bid(0, 3, 23, QUIET, 999);
        x.bid(1, 0, 0, NOISE, 1);
        x.bid(1, 3, 23, NOISE, 999);
        x.due(x.bidOf(0, 0, 0), 1);
        x.due(x.bidOf(0, 3, 23), 999);
        x.due(x.bidOf(1, 0, 0), 1001);
        x.due(x.bidOf(1, 3, 23), 1999);
        x.due(x.bidOf(0, 0, 1), NONE);
        x.due(x.bidOf(0, 1, 0), NONE);
        x.bid(0, 0, 0, NOISE, 0);
        x.due(x.bidOf(0, 0, 0), NONE);
        x.settle();
        x.due(x.bidOf(1, 3, 23), NONE);
    }

    @Says(in = "Promise 16", words = {"person: a person", "street: 0 to 3", "hour: 0 to 23",
        "INVALID_ARGUMENT if an argument is out of range;"})
    void bidsThatCanBeLookedAt() {
        Auction x = auctionAfter(MarkedTests::busyDay);
        x.due(x.bidOf(0, 0, 0), NONE);
        x.due(x.bidOf(0, 3, 23), 4);
        x.due(x.bidOf(2, 3, 23), NONE);
        invalidOutside(0, 2, MarkedTests::busyDay, (y, person) -> y.bidOf(person, 0, 0));
        invalidOutside(0, 3, MarkedTests::busyDay, (y, street) -> y.bidOf(0, street, 0));
        invalidOutside(0, 23, MarkedTests::busyDay, (y, hour) -> y.bidOf(0, 0, hour));
        refused(INVALID, NOTHING, y -> y.bidOf(0, 0, 0));
    }

    // ---- Promise 17

    @Says(in = "Promise 17", words = {"Returns the fund of a street.", "street: 0 to 3",
        "Returns the fund; INVALID_ARGUMENT if street is out of range."})
    void fundsThatThereAre() {
        Auction x = auction(1000);
        x.bid(0, 0, 0, NOISE, 7);
        x.bid(0, 3, 23, QUIET, 999 - 7);
        x.settle();
        int[] funds = {7, 0, 0, 992};
        for (int street = 0; street < 4; street++) {
            x.due(x.fund(street), funds[street]);
        }
        invalidOutside(0, 3, NOTHING, (y, street) -> y.fund(street));
        invalidOutside(0, 3, MarkedTests::busyDay, (y, street) -> y.fund(street));
    }
}
