/** Promises 18 to 21: winner, needed, quiet and purseThen. */
final class ForecastsTest {
    private static final Checks CHECKS = new Checks("ForecastsTest");

    public static void main(String[] arguments) {
        promise18Winner();
        promise18WinnerErrors();
        promise19NeededWithBids();
        promise19NeededWithoutBids();
        promise19NeededIsSmallest();
        promise19NeededErrors();
        promise20Quiet();
        promise20QuietErrors();
        promise21PurseThen();
        promise21PurseThenErrors();
        CHECKS.end();
    }

    private static void promise18Winner() {
        Auction x = Auction.of(CHECKS, 500, 500);
        CHECKS.due("without bids", x.winner(1, 2), Checks.QUIET);
        x.bid(0, 1, 2, Checks.NOISE, 5);
        CHECKS.due("noise alone", x.winner(1, 2), Checks.NOISE);
        CHECKS.due("another slot", x.winner(1, 3), Checks.QUIET);
        x.bid(1, 1, 2, Checks.QUIET, 5);
        CHECKS.due("the first tie", x.winner(1, 2), Checks.QUIET);
        x.settle();
        x.bid(0, 1, 2, Checks.NOISE, 5);
        x.bid(1, 1, 2, Checks.QUIET, 5);
        CHECKS.due("the second tie", x.winner(1, 2), Checks.NOISE);
        x.settle();
        CHECKS.due("without bids it stays noise", x.winner(1, 2), Checks.NOISE);
        x.bid(0, 1, 2, Checks.NOISE, 1);
        CHECKS.due("carried quiet of 2 against 1", x.winner(1, 2), Checks.QUIET);
        x.bid(0, 1, 2, Checks.NOISE, 2);
        CHECKS.due("a tie with carried quiet", x.winner(1, 2), Checks.QUIET);
        x.bid(0, 1, 2, Checks.NOISE, 3);
        CHECKS.due("carried quiet of 2 against 3", x.winner(1, 2), Checks.NOISE);
        CHECKS.due("nothing is settled by it", x.slot(1, 2, 4), 1);
    }

    private static void promise18WinnerErrors() {
        Auction x = Auction.of(CHECKS);
        CHECKS.due("winner(4, 0)", x.winner(4, 0), Checks.INVALID);
        CHECKS.due("winner(0, 24)", x.winner(0, 24), Checks.INVALID);
        CHECKS.due("winner(3, 23)", x.winner(3, 23), Checks.QUIET);
        for (int far : Checks.FAR_OFF) {
            CHECKS.due("winner(" + far + ", 0)", x.winner(far, 0), Checks.INVALID);
            CHECKS.due("winner(0, " + far + ")", x.winner(0, far), Checks.INVALID);
        }
    }

    private static void promise19NeededWithBids() {
        Auction x = Auction.of(CHECKS, 5000, 5000, 5000);
        x.bid(0, 0, 0, Checks.QUIET, 10);
        CHECKS.due("quiet against nothing", x.needed(0, 0, Checks.QUIET), 0);
        CHECKS.due("noise, which would lose the tie", x.needed(0, 0, Checks.NOISE), 11);
        x.bid(1, 0, 0, Checks.NOISE, 12);
        CHECKS.due("quiet, which would win the tie", x.needed(0, 0, Checks.QUIET), 2);
        CHECKS.due("noise", x.needed(0, 0, Checks.NOISE), 0);
        x.bid(0, 0, 0, Checks.QUIET, 12);
        CHECKS.due("noise in the tie", x.needed(0, 0, Checks.NOISE), 1);
        CHECKS.due("quiet in the tie", x.needed(0, 0, Checks.QUIET), 0);
        x.settle();
        x.bid(0, 0, 0, Checks.QUIET, 12);
        CHECKS.due("noise, which would win the tie", x.needed(0, 0, Checks.NOISE), 12);
        x.bid(1, 0, 0, Checks.NOISE, 12);
        CHECKS.due("quiet in the tie", x.needed(0, 0, Checks.QUIET), 1);
        CHECKS.due("noise in the tie", x.needed(0, 0, Checks.NOISE), 0);
        x.settle();
        x.bid(1, 0, 0, Checks.NOISE, 999);
        x.bid(2, 0, 0, Checks.NOISE, 999);
        CHECKS.due("above 999, less 6 of carried quiet", x.needed(0, 0, Checks.QUIET), 1992);
        x.bid(1, 0, 0, Checks.NOISE, 0);
        x.bid(2, 0, 0, Checks.NOISE, 4);
        CHECKS.due("noise against carried quiet", x.needed(0, 0, Checks.NOISE), 3);
    }

    private static void promise19NeededWithoutBids() {
        Auction x = Auction.of(CHECKS, 5000, 5000);
        CHECKS.due("quiet at first", x.needed(2, 2, Checks.QUIET), 0);
        CHECKS.due("noise at first", x.needed(2, 2, Checks.NOISE), 1);
        x.bid(0, 2, 2, Checks.QUIET, 8);
        x.bid(1, 2, 2, Checks.NOISE, 9);
        x.settle();
        CHECKS.due("quiet with carried quiet", x.needed(2, 2, Checks.QUIET), 1);
        CHECKS.due("noise, to which it belongs", x.needed(2, 2, Checks.NOISE), 0);
        x.bid(1, 3, 3, Checks.QUIET, 8);
        x.settle();
        CHECKS.due("noise, which would win a tie of nothing", x.needed(3, 3, Checks.NOISE), 1);
    }

    /** The answer is held against bids that a new bidder really makes. */
    private static void promise19NeededIsSmallest() {
        Auction x = Auction.of(CHECKS, 9000, 9000, 9000);
        int[] quietBids = {0, 3, 7, 7, 0, 9, 2, 0, 5};
        int[] noiseBids = {0, 5, 7, 9, 2, 0, 2, 0, 9};
        for (int day = 0; day < quietBids.length; day++) {
            x.bid(0, 1, 20, Checks.QUIET, quietBids[day]);
            x.bid(1, 1, 20, Checks.NOISE, noiseBids[day]);
            for (int side = 0; side <= 1; side++) {
                int amount = 0;
                while (x.winner(1, 20) != side) {
                    amount++;
                    x.bid(2, 1, 20, side, amount);
                }
                x.bid(2, 1, 20, side, 0);
                CHECKS.due("day " + day + ", side " + side, x.needed(1, 20, side), amount);
            }
            x.settle();
        }
    }

    private static void promise19NeededErrors() {
        Auction x = Auction.of(CHECKS);
        CHECKS.due("needed(4, 0, 0)", x.needed(4, 0, 0), Checks.INVALID);
        CHECKS.due("needed(0, 24, 0)", x.needed(0, 24, 0), Checks.INVALID);
        CHECKS.due("needed(0, 0, 2)", x.needed(0, 0, 2), Checks.INVALID);
        for (int far : Checks.FAR_OFF) {
            CHECKS.due("needed(" + far + ", 0, 0)", x.needed(far, 0, 0), Checks.INVALID);
            CHECKS.due("needed(0, " + far + ", 0)", x.needed(0, far, 0), Checks.INVALID);
            CHECKS.due("needed(0, 0, " + far + ")", x.needed(0, 0, far), Checks.INVALID);
        }
    }

    private static void promise20Quiet() {
        quietIs("", 24, 24, 0);
        quietIs("n1:0=1;", 23, 23, 1);
        quietIs("n1:23=1;", 23, 23, 0);
        quietIs("n1:12=1;", 23, 12, 0);
        quietIs("n1:11=1;", 23, 12, 12);
        quietIs("n1:5=1;n1:17=1;", 22, 11, 6);
        quietIs("n1:7=1;n1:15=1;n1:23=1;", 21, 7, 0);
        quietIs("n1:0-22=1;", 1, 1, 23);
        quietIs("n1:1-23=1;", 1, 1, 0);
        quietIs("n1:2-21=1;", 4, 2, 0);
        quietIs("n1:0-23=1;", 0, 0, Checks.NONE);
        quietIs("n0:0-23=1;n2:0-23=1;", 24, 24, 0);
    }

    private static void quietIs(String plan, int hours, int longest, int first) {
        Auction x = Auction.of(CHECKS, 1000);
        x.runText(0, plan);
        CHECKS.due("quiet before the day of " + plan, x.quiet(1, 0), 24);
        x.settle();
        CHECKS.due("hours of " + plan, x.quiet(1, 0), hours);
        CHECKS.due("longest run of " + plan, x.quiet(1, 1), longest);
        CHECKS.due("first hour of " + plan, x.quiet(1, 2), first);
    }

    private static void promise20QuietErrors() {
        Auction x = Auction.of(CHECKS);
        CHECKS.due("quiet(4, 0)", x.quiet(4, 0), Checks.INVALID);
        CHECKS.due("quiet(0, 3)", x.quiet(0, 3), Checks.INVALID);
        for (int far : Checks.FAR_OFF) {
            CHECKS.due("quiet(" + far + ", 0)", x.quiet(far, 0), Checks.INVALID);
            CHECKS.due("quiet(0, " + far + ")", x.quiet(0, far), Checks.INVALID);
        }
    }

    private static void promise21PurseThen() {
        Auction x = Auction.of(CHECKS, 100, 100, 3);
        CHECKS.due("without bids", x.purseThen(0), 100);
        x.bid(0, 0, 0, Checks.NOISE, 10);
        x.bid(0, 3, 23, Checks.QUIET, 10);
        x.bid(1, 0, 0, Checks.QUIET, 3);
        x.bid(1, 3, 23, Checks.NOISE, 15);
        x.bid(2, 0, 0, Checks.QUIET, 3);
        x.setFine(4);
        x.breach(2, 2, 2);
        String before = x.allSeen();
        // 0 pays 10 and gets 15, 1 pays 15 and gets 10 * 3 / 6, 2 gets 5 less the debt of 4.
        int[] purses = {105, 90, 4};
        for (int person = 0; person < purses.length; person++) {
            CHECKS.due("purseThen(" + person + ")", x.purseThen(person), purses[person]);
        }
        CHECKS.dueText("nothing has changed", x.allSeen(), before);
        x.settle();
        for (int person = 0; person < purses.length; person++) {
            CHECKS.due("purse of " + person, x.person(person, 0), purses[person]);
        }
    }

    private static void promise21PurseThenErrors() {
        Auction x = Auction.of(CHECKS, 100);
        CHECKS.due("purseThen(1)", x.purseThen(1), Checks.INVALID);
        for (int far : Checks.FAR_OFF) {
            CHECKS.due("purseThen(" + far + ")", x.purseThen(far), Checks.INVALID);
        }
    }
}
