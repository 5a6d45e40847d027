/** Promises 1 to 5: a new object, join, pay, bid and setFine. */
final class PeopleAndBidsTest {
    private static final Checks CHECKS = new Checks("PeopleAndBidsTest");

    public static void main(String[] arguments) {
        promise1NewObject();
        promise2Join();
        promise2JoinWhenFull();
        promise3Pay();
        promise3PayOut();
        promise3PayForDebt();
        promise3PayOutWithDebtAndFreeMoney();
        promise3PurseLimit();
        promise3PurseAboveLimit();
        promise4Bid();
        promise4BidRanges();
        promise4BidWithDebt();
        promise5SetFine();
        CHECKS.end();
    }

    private static void promise1NewObject() {
        Auction x = Auction.of(CHECKS);
        int[] counts = {0, 0, 0, 0, 20, 0, 0, 0, 0, 0};
        for (int what = 0; what < counts.length; what++) {
            CHECKS.due("count(" + what + ")", x.count(what), counts[what]);
        }
        for (int street = 0; street < 4; street++) {
            promise1NewStreet(Auction.of(CHECKS), street);
        }
        CHECKS.due("person", x.person(0, 0), Checks.INVALID);
        CHECKS.due("undo", x.undo(), Checks.ILLEGAL);
        CHECKS.due("clearText", x.clearText(), 0);
        Auction other = Auction.of(CHECKS, 7);
        CHECKS.due("people of another object", x.count(1), 0);
        CHECKS.due("people of that object", other.count(1), 1);
    }

    private static void promise1NewStreet(Auction x, int street) {
        CHECKS.due("fund", x.fund(street), 0);
        for (int hour = 0; hour < 24; hour++) {
            for (int what = 0; what <= 5; what++) {
                CHECKS.due("slot", x.slot(street, hour, what), 0);
            }
            CHECKS.due("winner", x.winner(street, hour), 0);
        }
    }

    private static void promise2Join() {
        Auction x = Auction.of(CHECKS);
        CHECKS.due("join(0)", x.join(0), 0);
        CHECKS.due("join(100000)", x.join(100000), 1);
        CHECKS.due("join(100001)", x.join(100001), Checks.INVALID);
        for (int purse : Checks.FAR_OFF) {
            CHECKS.due("join(" + purse + ")", x.join(purse), Checks.INVALID);
        }
        CHECKS.due("people", x.count(1), 2);
        CHECKS.due("states", x.count(8), 2);
        CHECKS.due("purse 0", x.person(0, 0), 0);
        CHECKS.due("purse 1", x.person(1, 0), 100000);
    }

    private static void promise2JoinWhenFull() {
        Auction x = Auction.of(CHECKS);
        for (int person = 0; person < 12; person++) {
            CHECKS.due("join", x.join(person), person);
        }
        CHECKS.due("a thirteenth joins", x.join(1), Checks.FULL);
        CHECKS.due("a thirteenth joins with too much", x.join(100001), Checks.INVALID);
        CHECKS.due("people", x.count(1), 12);
        CHECKS.due("purse of the twelfth", x.person(11, 0), 11);
        CHECKS.due("undo", x.undo(), 4);
        CHECKS.due("join in the free place", x.join(77), 11);
        CHECKS.due("purse then", x.person(11, 0), 77);
    }

    private static void promise3Pay() {
        Auction x = Auction.of(CHECKS, 10);
        CHECKS.due("pay 5", x.pay(0, 5), 15);
        CHECKS.due("pay 0", x.pay(0, 0), 15);
        CHECKS.due("states", x.count(8), 3);
        CHECKS.due("pay the most", x.pay(0, 100000), 100015);
        CHECKS.due("pay out the most", x.pay(0, -100000), 15);
        String before = x.allSeen();
        CHECKS.due("pay too much", x.pay(0, 100001), Checks.INVALID);
        CHECKS.due("pay out too much", x.pay(0, -100001), Checks.INVALID);
        CHECKS.due("pay the greatest", x.pay(0, Integer.MAX_VALUE), Checks.INVALID);
        CHECKS.due("pay the least", x.pay(0, Integer.MIN_VALUE), Checks.INVALID);
        CHECKS.due("pay nobody", x.pay(1, 1), Checks.INVALID);
        for (int person : Checks.FAR_OFF) {
            CHECKS.due("pay(" + person + ")", x.pay(person, 1), Checks.INVALID);
        }
        CHECKS.dueText("nothing has changed", x.allSeen(), before);
    }

    private static void promise3PayOut() {
        Auction x = Auction.of(CHECKS, 10);
        x.bid(0, 1, 2, Checks.NOISE, 4);
        String before = x.allSeen();
        CHECKS.due("more than the free money", x.pay(0, -7), Checks.ILLEGAL);
        CHECKS.dueText("nothing has changed", x.allSeen(), before);
        CHECKS.due("all the free money", x.pay(0, -6), 4);
        CHECKS.due("free", x.person(0, 1), 0);
        CHECKS.due("nothing out of nothing", x.pay(0, 0), 4);
    }

    private static void promise3PayForDebt() {
        Auction x = Auction.of(CHECKS, 5);
        x.breach(0, 2, 3);
        CHECKS.due("debt", x.person(0, 2), 15);
        CHECKS.due("fund", x.fund(2), 5);
        CHECKS.due("pay out with a debt", x.pay(0, -1), Checks.ILLEGAL);
        CHECKS.due("pay 0 with a debt", x.pay(0, 0), 0);
        CHECKS.due("pay 6", x.pay(0, 6), 0);
        CHECKS.due("debt", x.person(0, 2), 9);
        CHECKS.due("fund", x.fund(2), 11);
        CHECKS.due("pay 10", x.pay(0, 10), 1);
        CHECKS.due("debt", x.person(0, 2), 0);
        CHECKS.due("fund", x.fund(2), 20);
        CHECKS.due("pay out without a debt", x.pay(0, -1), 0);
    }

    /** A bid that was lost is free money again, and the debt stays. */
    private static void promise3PayOutWithDebtAndFreeMoney() {
        Auction x = Auction.of(CHECKS, 5, 100);
        x.bid(0, 0, 0, Checks.QUIET, 5);
        x.bid(1, 0, 0, Checks.NOISE, 6);
        x.setFine(7);
        x.breach(0, 1, 0);
        x.settle();
        CHECKS.due("debt", x.person(0, 2), 1);
        CHECKS.due("free", x.person(0, 1), 5);
        CHECKS.due("pay out", x.pay(0, -1), Checks.ILLEGAL);
        CHECKS.due("pay 0", x.pay(0, 0), 5);
        CHECKS.due("pay 1", x.pay(0, 1), 5);
        CHECKS.due("pay out", x.pay(0, -5), 0);
    }

    private static void promise3PurseLimit() {
        Auction x = Auction.of(CHECKS, 100000, 999);
        for (int times = 0; times < 99; times++) {
            x.pay(0, 100000);
        }
        CHECKS.due("purse at the limit", x.person(0, 0), 10000000);
        CHECKS.due("pay 1 more", x.pay(0, 1), Checks.ILLEGAL);
        CHECKS.due("pay 0 more", x.pay(0, 0), 10000000);
        x.breach(0, 0, 0);
        CHECKS.due("purse behind the fine", x.person(0, 0), 9999980);
        CHECKS.due("one above the limit", x.pay(0, 21), Checks.ILLEGAL);
        CHECKS.due("up to the limit", x.pay(0, 20), 10000000);
    }

    /** A share can lift a purse above the limit: then what is paid must bring it down to the limit. */
    private static void promise3PurseAboveLimit() {
        Auction x = Auction.of(CHECKS, 100000, 999);
        for (int times = 0; times < 99; times++) {
            x.pay(0, 100000);
        }
        x.bid(0, 0, 0, Checks.QUIET, 1);
        x.bid(1, 0, 0, Checks.NOISE, 5);
        x.settle();
        CHECKS.due("purse above the limit", x.person(0, 0), 10000005);
        CHECKS.due("pay 0 above the limit", x.pay(0, 0), Checks.ILLEGAL);
        CHECKS.due("pay out, but not down to the limit", x.pay(0, -4), Checks.ILLEGAL);
        CHECKS.due("pay out down to the limit", x.pay(0, -5), 10000000);
    }

    private static void promise4Bid() {
        Auction x = Auction.of(CHECKS, 1500);
        CHECKS.due("bid 999", x.bid(0, 0, 0, Checks.QUIET, 999), 501);
        CHECKS.due("bid more than is free", x.bid(0, 0, 1, Checks.QUIET, 502), Checks.ILLEGAL);
        CHECKS.due("bid all that is free", x.bid(0, 3, 23, Checks.NOISE, 501), 0);
        CHECKS.due("a bid in place of one", x.bid(0, 0, 0, Checks.NOISE, 998), 1);
        CHECKS.due("it is for noise", x.bidOf(0, 0, 0), 1998);
        CHECKS.due("its money is free again first", x.bid(0, 0, 0, Checks.QUIET, 999), 0);
        CHECKS.due("one too much", x.bid(0, 3, 23, Checks.NOISE, 502), Checks.ILLEGAL);
        CHECKS.due("the bid has stayed", x.bidOf(0, 3, 23), 1501);
        CHECKS.due("no bid", x.bid(0, 0, 0, Checks.NOISE, 0), 999);
        CHECKS.due("it is gone", x.bidOf(0, 0, 0), Checks.NONE);
        CHECKS.due("no bid where none is", x.bid(0, 2, 2, Checks.QUIET, 0), 999);
        CHECKS.due("bids", x.count(2), 1);
        CHECKS.due("purse", x.person(0, 0), 1500);
        CHECKS.due("states", x.count(8), 5);
    }

    private static void promise4BidRanges() {
        Auction x = Auction.of(CHECKS, 5000);
        String before = x.allSeen();
        for (int far : Checks.FAR_OFF) {
            CHECKS.due("person " + far, x.bid(far, 0, 0, 0, 1), Checks.INVALID);
            CHECKS.due("street " + far, x.bid(0, far, 0, 0, 1), Checks.INVALID);
            CHECKS.due("hour " + far, x.bid(0, 0, far, 0, 1), Checks.INVALID);
            CHECKS.due("side " + far, x.bid(0, 0, 0, far, 1), Checks.INVALID);
            CHECKS.due("amount " + far, x.bid(0, 0, 0, 0, far), Checks.INVALID);
        }
        CHECKS.due("person 1", x.bid(1, 0, 0, 0, 1), Checks.INVALID);
        CHECKS.due("street 4", x.bid(0, 4, 0, 0, 1), Checks.INVALID);
        CHECKS.due("hour 24", x.bid(0, 0, 24, 0, 1), Checks.INVALID);
        CHECKS.due("side 2", x.bid(0, 0, 0, 2, 1), Checks.INVALID);
        CHECKS.due("side 2 without a bid", x.bid(0, 0, 0, 2, 0), Checks.INVALID);
        CHECKS.due("amount 1000", x.bid(0, 0, 0, 0, 1000), Checks.INVALID);
        CHECKS.dueText("nothing has changed", x.allSeen(), before);
    }

    private static void promise4BidWithDebt() {
        Auction x = Auction.of(CHECKS, 10, 50);
        x.bid(0, 1, 1, Checks.NOISE, 10);
        x.bid(1, 1, 1, Checks.NOISE, 1);
        x.breach(0, 0, 0);
        String before = x.allSeen();
        CHECKS.due("bid with a debt", x.bid(0, 0, 0, 0, 1), Checks.ILLEGAL);
        CHECKS.due("take a bid back with a debt", x.bid(0, 1, 1, 0, 0), Checks.ILLEGAL);
        CHECKS.due("a bad amount with a debt", x.bid(0, 1, 1, 0, 1000), Checks.INVALID);
        CHECKS.dueText("nothing has changed", x.allSeen(), before);
        CHECKS.due("the bid stays", x.bidOf(0, 1, 1), 1010);
        x.pay(0, 19);
        CHECKS.due("debt", x.person(0, 2), 1);
        CHECKS.due("no bid with a debt of 1", x.bid(0, 2, 2, 0, 0), Checks.ILLEGAL);
        x.settle();
        CHECKS.due("and is won", x.person(0, 4), 1);
    }

    private static void promise5SetFine() {
        Auction x = Auction.of(CHECKS, 2000);
        CHECKS.due("setFine(0)", x.setFine(0), 20);
        CHECKS.due("setFine(1000)", x.setFine(1000), 0);
        CHECKS.due("setFine(1001)", x.setFine(1001), Checks.INVALID);
        for (int far : Checks.FAR_OFF) {
            CHECKS.due("setFine(" + far + ")", x.setFine(far), Checks.INVALID);
        }
        CHECKS.due("the fine", x.count(4), 1000);
        CHECKS.due("states", x.count(8), 3);
        CHECKS.due("breach", x.breach(0, 0, 0), 1000);
        CHECKS.due("setFine to the same", x.setFine(1000), 1000);
        CHECKS.due("states", x.count(8), 5);
    }
}
