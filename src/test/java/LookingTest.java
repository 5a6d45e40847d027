/** Promises 13 to 17: count, person, slot, bidOf and fund. */
final class LookingTest {
    private static final Checks CHECKS = new Checks("LookingTest");

    public static void main(String[] arguments) {
        promise13Count();
        promise14Person();
        promise15Slot();
        promise16BidOf();
        promise17Fund();
        lookingChangesNothing();
        CHECKS.end();
    }

    /** Two days with bids in streets 0 and 2, and a breach with a debt. */
    private static Auction used() {
        Auction x = Auction.of(CHECKS, 100, 200, 300);
        x.bid(0, 0, 5, Checks.QUIET, 20);
        x.bid(1, 0, 5, Checks.NOISE, 30);
        x.bid(2, 0, 5, Checks.NOISE, 3);
        x.bid(1, 2, 23, Checks.NOISE, 40);
        x.settle();
        x.bid(0, 0, 5, Checks.NOISE, 1);
        x.bid(1, 0, 5, Checks.QUIET, 2);
        x.bid(2, 0, 5, Checks.QUIET, 4);
        x.bid(2, 3, 0, Checks.NOISE, 5);
        x.setFine(500);
        x.breach(0, 1, 0);
        x.write("abc");
        return x;
    }

    private static void promise13Count() {
        Auction x = used();
        // Purses: 133 less 132 of the fine, 130 and 297; funds: 132 in street 1 and 40 in street 2.
        int[] counts = {1, 3, 4, 2, 500, 600, 368, 1, 5, 3};
        for (int what = 0; what < counts.length; what++) {
            CHECKS.due("count(" + what + ")", x.count(what), counts[what]);
        }
        CHECKS.due("count(10)", x.count(10), Checks.INVALID);
        for (int far : Checks.FAR_OFF) {
            CHECKS.due("count(" + far + ")", x.count(far), Checks.INVALID);
        }
    }

    private static void promise14Person() {
        Auction x = used();
        int[][] properties = {
            {1, 0, 368, 1, 0, 0, 33, 1},
            {130, 128, 0, 1, 2, 70, 0, 0},
            {297, 288, 0, 2, 1, 3, 0, 0},
        };
        for (int person = 0; person < 3; person++) {
            for (int what = 0; what <= 7; what++) {
                CHECKS.due("person(" + person + ", " + what + ")", x.person(person, what), properties[person][what]);
            }
        }
        CHECKS.due("person(3, 0)", x.person(3, 0), Checks.INVALID);
        CHECKS.due("person(0, 8)", x.person(0, 8), Checks.INVALID);
        for (int far : Checks.FAR_OFF) {
            CHECKS.due("person(" + far + ", 0)", x.person(far, 0), Checks.INVALID);
            CHECKS.due("person(0, " + far + ")", x.person(0, far), Checks.INVALID);
        }
    }

    private static void promise15Slot() {
        Auction x = used();
        slotIs(x, 0, 5, new int[] {1, 6, 1, 10, 3, 33});
        slotIs(x, 2, 23, new int[] {1, 0, 0, 0, 0, 40});
        slotIs(x, 3, 0, new int[] {0, 0, 5, 0, 1, 0});
        slotIs(x, 3, 1, new int[] {0, 0, 0, 0, 0, 0});
        x.settle();
        slotIs(x, 0, 5, new int[] {0, 0, 0, 0, 0, 6});
        slotIs(x, 2, 23, new int[] {1, 0, 0, 0, 0, 0});
        slotIs(x, 3, 0, new int[] {1, 0, 0, 0, 0, 5});
        CHECKS.due("slot(4, 0, 0)", x.slot(4, 0, 0), Checks.INVALID);
        CHECKS.due("slot(0, 24, 0)", x.slot(0, 24, 0), Checks.INVALID);
        CHECKS.due("slot(0, 0, 6)", x.slot(0, 0, 6), Checks.INVALID);
        for (int far : Checks.FAR_OFF) {
            CHECKS.due("slot(" + far + ", 0, 0)", x.slot(far, 0, 0), Checks.INVALID);
            CHECKS.due("slot(0, " + far + ", 0)", x.slot(0, far, 0), Checks.INVALID);
            CHECKS.due("slot(0, 0, " + far + ")", x.slot(0, 0, far), Checks.INVALID);
        }
    }

    private static void slotIs(Auction x, int street, int hour, int[] properties) {
        for (int what = 0; what < properties.length; what++) {
            CHECKS.due("slot(" + street + ", " + hour + ", " + what + ")", x.slot(street, hour, what), properties[what]);
        }
    }

    private static void promise16BidOf() {
        Auction x = Auction.of(CHECKS, 5000, 5000);
        x.bid(0, 3, 23, Checks.QUIET, 999);
        x.bid(1, 3, 23, Checks.NOISE, 999);
        x.bid(1, 0, 0, Checks.NOISE, 1);
        x.bid(0, 0, 0, Checks.QUIET, 1);
        CHECKS.due("bidOf(0, 3, 23)", x.bidOf(0, 3, 23), 999);
        CHECKS.due("bidOf(1, 3, 23)", x.bidOf(1, 3, 23), 1999);
        CHECKS.due("bidOf(1, 0, 0)", x.bidOf(1, 0, 0), 1001);
        CHECKS.due("bidOf(0, 0, 0)", x.bidOf(0, 0, 0), 1);
        CHECKS.due("bidOf(0, 0, 1)", x.bidOf(0, 0, 1), Checks.NONE);
        CHECKS.due("bidOf(2, 0, 0)", x.bidOf(2, 0, 0), Checks.INVALID);
        CHECKS.due("bidOf(0, 4, 0)", x.bidOf(0, 4, 0), Checks.INVALID);
        CHECKS.due("bidOf(0, 0, 24)", x.bidOf(0, 0, 24), Checks.INVALID);
        for (int far : Checks.FAR_OFF) {
            CHECKS.due("bidOf(" + far + ", 0, 1)", x.bidOf(far, 0, 1), Checks.INVALID);
            CHECKS.due("bidOf(0, " + far + ", 1)", x.bidOf(0, far, 1), Checks.INVALID);
            CHECKS.due("bidOf(0, 0, " + far + ")", x.bidOf(0, 0, far), Checks.INVALID);
        }
        x.settle();
        CHECKS.due("bidOf(0, 3, 23) behind the day", x.bidOf(0, 3, 23), Checks.NONE);
    }

    private static void promise17Fund() {
        Auction x = used();
        int[] funds = {0, 132, 40, 0};
        for (int street = 0; street < funds.length; street++) {
            CHECKS.due("fund(" + street + ")", x.fund(street), funds[street]);
        }
        CHECKS.due("fund(4)", x.fund(4), Checks.INVALID);
        for (int far : Checks.FAR_OFF) {
            CHECKS.due("fund(" + far + ")", x.fund(far), Checks.INVALID);
        }
    }

    private static void lookingChangesNothing() {
        Auction x = used();
        String before = x.allSeen();
        for (int times = 0; times < 2; times++) {
            for (int street = 0; street < 4; street++) {
                for (int what = 0; what < 3; what++) {
                    x.quiet(street, what);
                    x.purseThen(what);
                    x.winner(street, what);
                    x.needed(street, what, times);
                }
            }
            CHECKS.dueText("what is seen", x.allSeen(), before);
        }
    }
}
