/** The sentences on streets, hours, people and bids, and those of the promises 1 to 5. */
final class PeopleBoundsTest extends MarkedTests {
    private static final int PURSE_LIMIT = 10000000;

    public static void main(String[] arguments) {
        new PeopleBoundsTest().runAll();
    }

    // ---- Terms

    @Says(in = "Terms", words = "All numbers are whole. Quotients are rounded down.")
    void quotientsAreRoundedDown() {
        Auction x = auction(100, 100, 100);
        x.bid(0, 0, 0, QUIET, 1);
        x.bid(1, 0, 0, QUIET, 2);
        x.bid(2, 0, 0, NOISE, 4);
        x.settle();
        // 4 * 1 / 3 and 4 * 2 / 3, and half of 3.
        x.due(x.person(0, 0), 101);
        x.due(x.person(1, 0), 102);
        x.due(x.fund(0), 1);
        x.due(x.slot(0, 0, 3), 1);
    }

    // ---- Streets and hours

    @Says(in = "Streets and hours", words = "There are 4 streets, and 24 hours of a day, numbered from 0; a street and an "
        + "hour are a slot.")
    void thereAre96Slots() {
        Auction x = auction(100000);
        for (int slot = 0; slot < 96; slot++) {
            x.bid(0, slot / 24, slot % 24, NOISE, slot + 1);
        }
        for (int slot = 0; slot < 96; slot++) {
            x.due(x.bidOf(0, slot / 24, slot % 24), 1001 + slot);
        }
        invalidOutside(0, 3, MarkedTests::busyDay, (y, street) -> y.winner(street, 0));
        invalidOutside(0, 23, MarkedTests::busyDay, (y, hour) -> y.winner(0, hour));
    }

    @Says(in = "Streets and hours", words = "Each slot belongs to a side, 0 quiet or 1 noise (at first quiet), and has "
        + "carried quiet (0 at first).")
    void slotsAreQuietAtFirst() {
        Auction x = auction();
        for (int slot = 0; slot < 96; slot++) {
            x.due(x.slot(slot / 24, slot % 24, 0), 0);
            x.due(x.slot(slot / 24, slot % 24, 3), 0);
        }
        Auction noisy = auction(1);
        noisy.bid(0, 2, 2, NOISE, 1);
        noisy.settle();
        noisy.due(noisy.slot(2, 2, 0), 1);
    }

    @Says(in = "Streets and hours", words = "Each street has a fund (0 at first).")
    void fundsAreEmptyAtFirst() {
        for (int street = 0; street < 4; street++) {
            Auction x = auction(100);
            x.due(x.fund(street), 0);
            x.breach(0, street, 0);
            for (int other = 0; other < 4; other++) {
                x.due(x.fund(other), other == street ? 20 : 0);
            }
        }
    }

    @Says(in = "Streets and hours", words = "Days are numbered from 0.")
    void theFirstDayIs0() {
        Auction x = auction();
        x.due(x.count(0), 0);
        x.settle();
        x.due(x.count(0), 1);
    }

    // ---- People and bids

    @Says(in = "People and bids", words = "There are at most 12 people, numbered from 0, each with a purse (0 or more) and a "
        + "debt (0 at first).")
    void atMostTwelvePeople() {
        Auction x = auction();
        for (int person = 0; person < 12; person++) {
            x.due(x.join(10 * person), person);
            x.due(x.count(1), person + 1);
        }
        x.due(x.join(0), FULL);
        x.due(x.count(1), 12);
        for (int person = 0; person < 12; person++) {
            x.due(x.person(person, 0), 10 * person);
            x.due(x.person(person, 2), 0);
        }
        x.due(x.pay(11, -110), 0);
        refused(ILLEGAL, y -> y.joinAll(0), y -> y.pay(0, -1));
    }

    @Says(in = "People and bids", words = "A person has one bid at most for a slot, for a side, of 1 to 999.")
    void oneBidForASlot() {
        Auction x = auction(5000);
        x.bid(0, 1, 5, QUIET, 1);
        x.due(x.bidOf(0, 1, 5), 1);
        x.bid(0, 1, 5, NOISE, 999);
        x.due(x.bidOf(0, 1, 5), 1999);
        x.due(x.slot(1, 5, 1), 0);
        x.due(x.slot(1, 5, 2), 999);
        x.due(x.slot(1, 5, 4), 1);
        x.due(x.count(2), 1);
        refused(INVALID, y -> y.joinAll(5000), y -> y.bid(0, 1, 5, NOISE, 1000), y -> y.bid(0, 1, 5, QUIET, 1000));
    }

    @Says(in = "People and bids", words = "The free money of a person is the purse less all bids of the person; it is never "
        + "below 0.")
    void freeMoneyIsNeverBelow0() {
        Auction x = auction(10);
        x.due(x.person(0, 1), 10);
        x.bid(0, 0, 0, QUIET, 4);
        x.due(x.person(0, 1), 6);
        x.bid(0, 3, 23, NOISE, 6);
        x.due(x.person(0, 1), 0);
        x.due(x.person(0, 0), 10);
        x.breach(0, 0, 0);
        x.due(x.person(0, 1), 0);
        x.due(x.person(0, 0), 10);
        Auction.Story allBid = y -> {
            y.joinAll(10);
            y.bid(0, 0, 0, QUIET, 4);
            y.bid(0, 3, 23, NOISE, 6);
        };
        refused(ILLEGAL, allBid, y -> y.bid(0, 1, 1, QUIET, 1), y -> y.bid(0, 0, 0, QUIET, 5), y -> y.pay(0, -1));
    }

    // ---- Promise 1

    @Says(in = "Promise 1", words = "Creates an auction without people, on day 0, with an empty text.")
    void aNewObjectIsEmpty() {
        Auction x = auction();
        int[] counts = {0, 0, 0, 0, 20, 0, 0, 0, 0, 0};
        for (int what = 0; what < counts.length; what++) {
            x.due(x.count(what), counts[what]);
        }
        x.due(x.person(0, 0), INVALID);
        x.due(x.run(0), INVALID);
        x.due(x.undo(), ILLEGAL);
        x.due(x.failure(0), NONE);
        x.due(x.clearText(), 0);
        Auction other = auction(7);
        other.settle();
        other.write("q");
        Auction third = auction();
        third.due(third.count(0) + third.count(1) + third.count(9), 0);
    }

    // ---- Promise 2

    @Says(in = "Promise 2", words = "Lets a person join. This is an action.")
    void joinIsAnAction() {
        isAnAction(NOTHING, x -> x.join(3));
        isAnAction(MarkedTests::busyDay, x -> x.join(0));
    }

    @Says(in = "Promise 2", words = {"purse: 0 to 100000", "INVALID_ARGUMENT if purse is out of range;"})
    void pursesThatMayJoin() {
        Auction x = auction();
        x.due(x.join(0), 0);
        x.due(x.join(100000), 1);
        x.due(x.person(0, 0), 0);
        x.due(x.person(1, 0), 100000);
        invalidOutside(0, 100000, NOTHING, (y, purse) -> y.join(purse));
        invalidOutside(0, 100000, MarkedTests::busyDay, (y, purse) -> y.join(purse));
    }

    @Says(in = "Promise 2", words = {"Returns the number of the person;", "CAPACITY_EXCEEDED if there are 12."})
    void theThirteenthCannotJoin() {
        Auction.Story elevenJoin = x -> x.joinAll(1, 2, 3, 4, 5, 6, 7, 8, 9, 10, 11);
        Auction x = auctionAfter(elevenJoin);
        x.due(x.join(12), 11);
        x.due(x.join(13), FULL);
        // The place is free again once undo() has taken a person away.
        x.undo();
        x.due(x.join(14), 11);
        x.due(x.person(11, 0), 14);
        Auction.Story twelveJoin = y -> {
            elevenJoin.on(y);
            y.join(12);
        };
        refused(FULL, twelveJoin, y -> y.join(0), y -> y.join(100000));
        refused(INVALID, twelveJoin, y -> y.join(-1), y -> y.join(100001));
    }

    // ---- Promise 3

    @Says(in = "Promise 3", words = "Pays money into a purse, or out of it. This is an action.")
    void payIsAnAction() {
        isAnAction(MarkedTests::busyDay, x -> x.pay(0, 10));
        isAnAction(MarkedTests::busyDay, x -> x.pay(0, -10));
        isAnAction(MarkedTests::busyDay, x -> x.pay(0, 0));
        isAnAction(MarkedTests::busyDay, x -> x.pay(2, 16));
    }

    @Says(in = "Promise 3", words = {"person: a person", "INVALID_ARGUMENT if an argument is out of range;"})
    void peopleWhoCanPay() {
        Auction x = auctionAfter(MarkedTests::busyDay);
        int first = x.person(0, 0);
        x.due(x.pay(0, 1), first + 1);
        x.due(x.pay(2, 15), 0);
        invalidOutside(0, 2, MarkedTests::busyDay, (y, person) -> y.pay(person, 1));
        refused(INVALID, NOTHING, y -> y.pay(0, 0));
    }

    @Says(in = "Promise 3", words = {"amount: -100000 to 100000; below 0 if it is paid out", "Returns the purse then;"})
    void amountsThatCanBePaid() {
        Auction x = auction(10);
        x.due(x.pay(0, 100000), 100010);
        x.due(x.pay(0, -100000), 10);
        x.due(x.pay(0, 0), 10);
        x.due(x.pay(0, 1), 11);
        x.due(x.pay(0, -1), 10);
        invalidOutside(-100000, 100000, MarkedTests::busyDay, (y, amount) -> y.pay(0, amount));
        // Out of range comes first, also where the money is there, or is not free.
        refused(INVALID, y -> y.joinAll(100000), y -> y.pay(0, -100001));
        Auction.Story rich = y -> {
            y.joinAll(100000);
            y.pay(0, 100000);
        };
        refused(INVALID, rich, y -> y.pay(0, -100001), y -> y.pay(0, 100001));
    }

    @Says(in = "Promise 3", words = "ILLEGAL_STATE if more than the free money would be paid out,")
    void noMoreThanTheFreeMoneyIsPaidOut() {
        Auction.Story oneBid = x -> {
            x.joinAll(10, 50);
            x.bid(0, 1, 2, NOISE, 4);
        };
        Auction x = auctionAfter(oneBid);
        x.due(x.pay(0, -6), 4);
        x.due(x.person(0, 1), 0);
        x.due(x.pay(0, 0), 4);
        refused(ILLEGAL, oneBid, y -> y.pay(0, -7), y -> y.pay(0, -10), y -> y.pay(0, -100000));
        Auction.Story nothingIsFree = y -> {
            oneBid.on(y);
            y.pay(0, -6);
        };
        refused(ILLEGAL, nothingIsFree, y -> y.pay(0, -1));
    }

    @Says(in = "Promise 3", words = "if money would be paid out of the purse of a person with a debt,")
    void debtorsAreNotPaidOut() {
        // The lost bid of 5 is free again on the next day, and the debt of 1 stays.
        Auction.Story debtOf1 = x -> {
            x.joinAll(5, 100);
            x.bid(0, 0, 0, QUIET, 5);
            x.bid(1, 0, 0, NOISE, 6);
            x.setFine(7);
            x.breach(0, 1, 0);
            x.settle();
        };
        Auction x = auctionAfter(debtOf1);
        x.due(x.person(0, 2), 1);
        x.due(x.person(0, 1), 5);
        x.due(x.pay(0, 0), 5);
        x.due(x.pay(0, 1), 5);
        x.due(x.person(0, 2), 0);
        x.due(x.pay(0, -5), 0);
        refused(ILLEGAL, debtOf1, y -> y.pay(0, -1), y -> y.pay(0, -5), y -> y.pay(0, -6));
        refused(INVALID, debtOf1, y -> y.pay(0, -100001));
    }

    private static void atTheLimit(Auction x) {
        x.joinAll(100000, 999);
        for (int times = 0; times < 99; times++) {
            x.pay(0, 100000);
        }
    }

    /** A purse that is 5 above the limit, by what is shared out. */
    private static void aboveTheLimit(Auction x) {
        atTheLimit(x);
        x.bid(0, 0, 0, QUIET, 1);
        x.bid(1, 0, 0, NOISE, 5);
        x.settle();
    }

    /** A debt ends by money that comes long before a purse is near the limit, so both never come together. */
    @Says(in = "Promise 3", words = "or if the purse would be more than 10000000, behind what is taken for a debt.")
    void noPurseIsPaidAboveTheLimit() {
        Auction x = auctionAfter(PeopleBoundsTest::atTheLimit);
        x.due(x.person(0, 0), PURSE_LIMIT);
        x.due(x.pay(0, 0), PURSE_LIMIT);
        x.due(x.pay(0, -1), PURSE_LIMIT - 1);
        x.due(x.pay(0, 2), ILLEGAL);
        x.due(x.pay(0, 1), PURSE_LIMIT);
        refused(ILLEGAL, PeopleBoundsTest::atTheLimit, y -> y.pay(0, 1), y -> y.pay(0, 100000));
        Auction above = auctionAfter(PeopleBoundsTest::aboveTheLimit);
        above.due(above.person(0, 0), PURSE_LIMIT + 5);
        above.due(above.pay(0, -5), PURSE_LIMIT);
        refused(ILLEGAL, PeopleBoundsTest::aboveTheLimit, y -> y.pay(0, 1), y -> y.pay(0, 0), y -> y.pay(0, -4));
    }

    // ---- Promise 4

    @Says(in = "Promise 4", words = "Makes a bid, in place of one that the person has for this slot; its money is free "
        + "again first. This is an action.")
    void aBidInPlaceOfOne() {
        Auction x = auction(10);
        x.due(x.bid(0, 2, 2, QUIET, 10), 0);
        x.due(x.bid(0, 2, 2, NOISE, 10), 0);
        x.due(x.bidOf(0, 2, 2), 1010);
        x.due(x.bid(0, 2, 2, NOISE, 9), 1);
        x.due(x.bid(0, 2, 3, NOISE, 2), ILLEGAL);
        x.due(x.bid(0, 2, 3, NOISE, 1), 0);
        isAnAction(MarkedTests::busyDay, y -> y.bid(0, 3, 23, NOISE, 5));
        isAnAction(MarkedTests::busyDay, y -> y.bid(1, 2, 20, QUIET, 1));
    }

    @Says(in = "Promise 4", words = {"person: a person", "INVALID_ARGUMENT if an argument is out of range;"})
    void peopleWhoCanBid() {
        Auction x = auction(9, 9, 9);
        x.due(x.bid(0, 0, 0, QUIET, 1), 8);
        x.due(x.bid(2, 0, 0, QUIET, 2), 7);
        invalidOutside(0, 2, MarkedTests::busyDay, (y, person) -> y.bid(person, 0, 0, QUIET, 0));
        refused(INVALID, NOTHING, y -> y.bid(0, 0, 0, QUIET, 0));
    }

    @Says(in = "Promise 4", words = {"street: 0 to 3", "hour: 0 to 23"})
    void slotsThatCanBeBidFor() {
        Auction x = auction(9);
        x.due(x.bid(0, 0, 0, QUIET, 1), 8);
        x.due(x.bid(0, 3, 23, QUIET, 1), 7);
        invalidOutside(0, 3, MarkedTests::busyDay, (y, street) -> y.bid(0, street, 0, QUIET, 1));
        invalidOutside(0, 23, MarkedTests::busyDay, (y, hour) -> y.bid(0, 0, hour, QUIET, 1));
    }

    @Says(in = "Promise 4", words = "side: 0 for quiet, 1 for noise")
    void sidesThatCanBeBidFor() {
        Auction x = auction(9);
        x.bid(0, 0, 0, 0, 1);
        x.due(x.slot(0, 0, 1), 1);
        x.bid(0, 0, 0, 1, 2);
        x.due(x.slot(0, 0, 2), 2);
        invalidOutside(0, 1, MarkedTests::busyDay, (y, side) -> y.bid(0, 0, 0, side, 1));
        invalidOutside(0, 1, MarkedTests::busyDay, (y, side) -> y.bid(0, 3, 23, side, 0));
    }

    @Says(in = "Promise 4", words = {"amount: 0 to 999; 0 for no bid", "Returns the free money then;"})
    void amountsThatCanBeBid() {
        Auction x = auction(1000);
        x.due(x.bid(0, 0, 0, QUIET, 999), 1);
        x.due(x.bid(0, 0, 0, QUIET, 1), 999);
        x.due(x.bid(0, 0, 0, NOISE, 0), 1000);
        x.due(x.bidOf(0, 0, 0), NONE);
        x.due(x.bid(0, 0, 0, QUIET, 0), 1000);
        x.due(x.count(2), 0);
        x.due(x.count(8), 5);
        invalidOutside(0, 999, MarkedTests::busyDay, (y, amount) -> y.bid(0, 0, 0, QUIET, amount));
        invalidOutside(0, 999, MarkedTests::busyDay, (y, amount) -> y.bid(0, 3, 23, NOISE, amount));
        // Out of range comes first, also for a person with a debt.
        refused(INVALID, MarkedTests::busyDay, y -> y.bid(2, 0, 0, QUIET, 1000), y -> y.bid(2, 0, 0, QUIET, -1));
    }

    private static void debtOf1(Auction x) {
        x.joinAll(10);
        x.bid(0, 1, 1, NOISE, 5);
        x.setFine(6);
        x.breach(0, 0, 0);
    }

    @Says(in = "Promise 4", words = "ILLEGAL_STATE if the person has a debt,")
    void debtorsCannotBid() {
        Auction x = auctionAfter(PeopleBoundsTest::debtOf1);
        x.due(x.person(0, 2), 1);
        x.pay(0, 1);
        x.due(x.bid(0, 1, 1, NOISE, 4), 1);
        refused(ILLEGAL, PeopleBoundsTest::debtOf1, y -> y.bid(0, 1, 1, NOISE, 5), y -> y.bid(0, 1, 1, NOISE, 4),
            y -> y.bid(0, 1, 1, QUIET, 0), y -> y.bid(0, 2, 2, QUIET, 0), y -> y.bid(0, 2, 2, QUIET, 1));
    }

    @Says(in = "Promise 4", words = "or the free money would be below 0.")
    void noMoreThanTheFreeMoneyIsBid() {
        Auction.Story twoBids = x -> {
            x.joinAll(100, 3);
            x.bid(0, 0, 0, QUIET, 30);
            x.bid(0, 1, 1, NOISE, 50);
        };
        Auction x = auctionAfter(twoBids);
        x.due(x.bid(0, 2, 2, QUIET, 20), 0);
        x.undo();
        x.due(x.bid(0, 1, 1, QUIET, 70), 0);
        refused(ILLEGAL, twoBids, y -> y.bid(0, 2, 2, QUIET, 21), y -> y.bid(0, 1, 1, NOISE, 71),
            y -> y.bid(0, 0, 0, NOISE, 51), y -> y.bid(1, 0, 0, NOISE, 4));
        Auction poor = auction(0);
        poor.due(poor.bid(0, 0, 0, QUIET, 1), ILLEGAL);
        poor.due(poor.bid(0, 0, 0, QUIET, 0), 0);
    }

    // ---- Promise 5

    @Says(in = "Promise 5", words = "Sets the fine. This is an action.")
    void setFineIsAnAction() {
        isAnAction(MarkedTests::busyDay, x -> x.setFine(1000));
        isAnAction(MarkedTests::busyDay, x -> x.setFine(20));
    }

    @Says(in = "Promise 5", words = {"fine: 0 to 1000",
        "Returns the previous fine; INVALID_ARGUMENT if fine is out of range."})
    void finesThatCanBeSet() {
        Auction x = auction();
        x.due(x.setFine(0), 20);
        x.due(x.setFine(1000), 0);
        x.due(x.setFine(1), 1000);
        x.due(x.setFine(999), 1);
        x.due(x.count(4), 999);
        invalidOutside(0, 1000, MarkedTests::busyDay, (y, fine) -> y.setFine(fine));
    }
}
