/** Promises 6 to 8: settle, breach and undo. */
final class DaysAndBreachesTest {
    private static final Checks CHECKS = new Checks("DaysAndBreachesTest");

    public static void main(String[] arguments) {
        promise6SettleWithoutBids();
        promise6NoiseWins();
        promise6QuietWins();
        promise6CarriedQuietWinsAlone();
        promise6NobodyToShareWith();
        promise6TiesGoToTheOtherSide();
        promise6TieSideStaysWithoutBids();
        promise6CarriedQuietIsHalved();
        promise6ShareGoesToDebt();
        promise6ManySlots();
        promise6TwelvePeople();
        promise7FineIsPaid();
        promise7FineBecomesDebt();
        promise7FineIsShared();
        promise7FineToOneself();
        promise7FineToDebtors();
        promise7FundOfTheLatestBreach();
        promise7FineWithoutWinners();
        promise7Errors();
        promise8Undo();
        promise8UndoEachAction();
        promise8UndoOfWhatIsNotSeen();
        promise8UndoKeepsTextAndFailure();
        promise8UnsuccessfulCallsAreNotRecorded();
        CHECKS.end();
    }

    private static void promise6SettleWithoutBids() {
        Auction x = Auction.of(CHECKS, 10);
        CHECKS.due("settle", x.settle(), 0);
        CHECKS.due("day", x.count(0), 1);
        CHECKS.due("settle", x.settle(), 0);
        CHECKS.due("day", x.count(0), 2);
        CHECKS.due("purse", x.person(0, 0), 10);
        CHECKS.due("slot", x.slot(1, 1, 0), Checks.QUIET);
    }

    private static void promise6NoiseWins() {
        Auction x = Auction.of(CHECKS, 100, 100, 100, 100, 100);
        x.bid(0, 2, 5, Checks.QUIET, 3);
        x.bid(1, 2, 5, Checks.QUIET, 4);
        x.bid(2, 2, 5, Checks.NOISE, 6);
        x.bid(3, 2, 5, Checks.NOISE, 5);
        CHECKS.due("settle", x.settle(), 1);
        // 11 are paid: 11 * 3 / 7 = 4 and 11 * 4 / 7 = 6 are shared, and 1 is left over.
        CHECKS.due("purse 0", x.person(0, 0), 104);
        CHECKS.due("purse 1", x.person(1, 0), 106);
        CHECKS.due("purse 2", x.person(2, 0), 94);
        CHECKS.due("purse 3", x.person(3, 0), 95);
        CHECKS.due("purse 4", x.person(4, 0), 100);
        CHECKS.due("fund 2", x.fund(2), 1);
        CHECKS.due("fund 1", x.fund(1), 0);
        CHECKS.due("owner", x.slot(2, 5, 0), Checks.NOISE);
        CHECKS.due("carried", x.slot(2, 5, 3), 3);
        CHECKS.due("bids", x.slot(2, 5, 4), 0);
        CHECKS.due("paid", x.slot(2, 5, 5), 11);
        CHECKS.due("won by 2", x.person(2, 4), 1);
        CHECKS.due("paid by 2", x.person(2, 5), 6);
        CHECKS.due("won by 0", x.person(0, 4), 0);
        CHECKS.due("paid by 0", x.person(0, 5), 0);
        CHECKS.due("shared to 0", x.person(0, 6), 4);
        CHECKS.due("shared to 2", x.person(2, 6), 0);
        CHECKS.due("all bids", x.count(2), 0);
        CHECKS.due("free 3", x.person(3, 1), 95);
        CHECKS.due("money", x.count(5), 500);
    }

    private static void promise6QuietWins() {
        Auction x = Auction.of(CHECKS, 100, 100, 100);
        x.bid(0, 3, 0, Checks.QUIET, 10);
        x.bid(1, 3, 0, Checks.NOISE, 2);
        x.bid(2, 3, 0, Checks.NOISE, 1);
        CHECKS.due("settle", x.settle(), 0);
        CHECKS.due("purse 0", x.person(0, 0), 90);
        CHECKS.due("purse 1", x.person(1, 0), 106);
        CHECKS.due("purse 2", x.person(2, 0), 103);
        CHECKS.due("fund 3", x.fund(3), 1);
        CHECKS.due("carried", x.slot(3, 0, 3), 0);
        CHECKS.due("paid", x.slot(3, 0, 5), 10);
        x.settle();
        CHECKS.due("paid without bids", x.slot(3, 0, 5), 0);
    }

    /** Lets noise win 9 to 8, so that 4 of quiet is carried on. */
    private static Auction withCarriedQuiet() {
        Auction x = Auction.of(CHECKS, 100, 100);
        x.bid(0, 1, 1, Checks.QUIET, 8);
        x.bid(1, 1, 1, Checks.NOISE, 9);
        x.settle();
        CHECKS.due("carried", x.slot(1, 1, 3), 4);
        return x;
    }

    private static void promise6CarriedQuietWinsAlone() {
        Auction x = withCarriedQuiet();
        x.bid(1, 1, 1, Checks.NOISE, 3);
        CHECKS.due("settle", x.settle(), 0);
        CHECKS.due("owner", x.slot(1, 1, 0), Checks.QUIET);
        CHECKS.due("paid", x.slot(1, 1, 5), 0);
        CHECKS.due("carried", x.slot(1, 1, 3), 0);
        CHECKS.due("purse 1", x.person(1, 0), 91);
        CHECKS.due("shared to 1", x.person(1, 6), 0);
        CHECKS.due("fund", x.fund(1), 0);
        // Nobody won for quiet, so the fine goes to the fund.
        CHECKS.due("breach", x.breach(1, 1, 1), 20);
        CHECKS.due("fund", x.fund(1), 20);
        CHECKS.due("purse 0", x.person(0, 0), 109);
    }

    private static void promise6NobodyToShareWith() {
        Auction x = Auction.of(CHECKS, 100, 100);
        x.bid(0, 1, 1, Checks.NOISE, 8);
        x.bid(1, 1, 1, Checks.NOISE, 9);
        x.settle();
        CHECKS.due("fund", x.fund(1), 17);
        CHECKS.due("carried", x.slot(1, 1, 3), 0);
        CHECKS.due("won by 0", x.person(0, 4), 1);
        CHECKS.due("won by 1", x.person(1, 4), 1);
        CHECKS.due("purse 1", x.person(1, 0), 91);
    }

    private static void promise6TiesGoToTheOtherSide() {
        Auction x = Auction.of(CHECKS, 100, 100);
        int[] dueSides = {Checks.QUIET, Checks.NOISE, Checks.QUIET, Checks.NOISE};
        int[] noiseBids = {6, 6, 9, 6};
        for (int day = 0; day < dueSides.length; day++) {
            x.bid(0, 0, 23, Checks.QUIET, 6);
            x.bid(1, 0, 23, Checks.NOISE, noiseBids[day]);
            x.settle();
            CHECKS.due("owner behind day " + day, x.slot(0, 23, 0), dueSides[day]);
        }
    }

    private static void promise6TieSideStaysWithoutBids() {
        Auction x = Auction.of(CHECKS, 100, 100);
        x.bid(0, 0, 3, Checks.QUIET, 1);
        x.settle();
        x.settle();
        x.settle();
        x.bid(0, 0, 3, Checks.QUIET, 1);
        x.bid(1, 0, 3, Checks.NOISE, 1);
        CHECKS.due("settle", x.settle(), 1);
        CHECKS.due("owner", x.slot(0, 3, 0), Checks.NOISE);
        x.settle();
        CHECKS.due("it stays with its side", x.slot(0, 3, 0), Checks.NOISE);
        CHECKS.due("a tie of another slot", x.slot(0, 4, 0), Checks.QUIET);
    }

    private static void promise6CarriedQuietIsHalved() {
        Auction x = Auction.of(CHECKS, 5000, 5000);
        x.bid(0, 1, 1, Checks.QUIET, 27);
        x.bid(1, 1, 1, Checks.NOISE, 30);
        x.settle();
        CHECKS.due("carried", x.slot(1, 1, 3), 13);
        // The strength of quiet is 20 + 13.
        x.bid(0, 1, 1, Checks.QUIET, 20);
        x.bid(1, 1, 1, Checks.NOISE, 34);
        x.settle();
        CHECKS.due("carried on again", x.slot(1, 1, 3), 16);
        x.settle();
        CHECKS.due("halved", x.slot(1, 1, 3), 8);
        x.bid(1, 1, 1, Checks.NOISE, 9);
        x.settle();
        CHECKS.due("half of what was carried alone", x.slot(1, 1, 3), 4);
        x.settle();
        x.settle();
        CHECKS.due("halved", x.slot(1, 1, 3), 1);
        x.settle();
        CHECKS.due("halved to nothing", x.slot(1, 1, 3), 0);
    }

    private static void promise6ShareGoesToDebt() {
        Auction x = Auction.of(CHECKS, 5, 100);
        x.bid(0, 0, 0, Checks.QUIET, 5);
        x.bid(1, 0, 0, Checks.NOISE, 12);
        x.breach(0, 3, 9);
        CHECKS.due("debt", x.person(0, 2), 20);
        CHECKS.due("purseThen", x.purseThen(0), 5);
        x.settle();
        CHECKS.due("debt", x.person(0, 2), 8);
        CHECKS.due("purse", x.person(0, 0), 5);
        CHECKS.due("shared", x.person(0, 6), 12);
        CHECKS.due("fund of the breach", x.fund(3), 12);
        CHECKS.due("fund of the slot", x.fund(0), 0);
        CHECKS.due("bid with the debt that is left", x.bid(0, 0, 0, 0, 1), Checks.ILLEGAL);
        CHECKS.due("another breach, out of the money that is free again", x.breach(0, 2, 9), 5);
        CHECKS.due("debt", x.person(0, 2), 23);
    }

    private static void promise6ManySlots() {
        Auction x = Auction.of(CHECKS, 1000, 1000);
        for (int street = 0; street < 4; street++) {
            x.bid(0, street, 0, Checks.NOISE, 1 + street);
            x.bid(0, street, 23, Checks.NOISE, 10);
            x.bid(1, street, 23, Checks.QUIET, 4);
        }
        CHECKS.due("settle", x.settle(), 8);
        for (int street = 0; street < 4; street++) {
            CHECKS.due("fund", x.fund(street), 1 + street);
            CHECKS.due("carried", x.slot(street, 23, 3), 2);
        }
        CHECKS.due("purse 0", x.person(0, 0), 950);
        CHECKS.due("purse 1", x.person(1, 0), 1040);
        CHECKS.due("won by 0", x.person(0, 4), 8);
        CHECKS.due("paid by 0", x.person(0, 5), 50);
    }

    private static void promise6TwelvePeople() {
        Auction x = Auction.of(CHECKS, 100, 100, 100, 100, 100, 100, 100, 100, 100, 100, 100, 100);
        for (int person = 0; person < 12; person++) {
            x.bid(person, 0, 0, person < 6 ? Checks.QUIET : Checks.NOISE, person + 1);
            x.bid(person, 3, 23, Checks.QUIET, 1);
        }
        CHECKS.due("quiet", x.slot(0, 0, 1), 21);
        CHECKS.due("noise", x.slot(0, 0, 2), 57);
        CHECKS.due("bids for the slot", x.slot(0, 0, 4), 12);
        CHECKS.due("bids", x.count(2), 24);
        CHECKS.due("bids of the twelfth", x.person(11, 3), 2);
        CHECKS.due("purseThen of the sixth", x.purseThen(5), 115);
        CHECKS.due("settle", x.settle(), 1);
        CHECKS.due("purse of the sixth", x.person(5, 0), 115);
        CHECKS.due("purse of the twelfth", x.person(11, 0), 87);
        // 57 * 1, 2, .. 6 / 21 are 2, 5, 8, 10, 13 and 16, together 54.
        CHECKS.due("fund 0", x.fund(0), 3);
        CHECKS.due("fund 3", x.fund(3), 12);
        CHECKS.due("breach for quiet of all", x.breach(11, 3, 23), 20);
        CHECKS.due("purse of the twelfth", x.person(11, 0), 68);
        CHECKS.due("purse of the first", x.person(0, 0), 102);
        CHECKS.due("fund 3", x.fund(3), 20);
        CHECKS.due("money", x.count(5), 1200);
        CHECKS.due("debts", x.count(6), 0);
    }

    private static void promise7FineIsPaid() {
        Auction x = Auction.of(CHECKS, 50, 70);
        CHECKS.due("breach", x.breach(0, 2, 7), 20);
        CHECKS.due("purse", x.person(0, 0), 30);
        CHECKS.due("debt", x.person(0, 2), 0);
        CHECKS.due("fund", x.fund(2), 20);
        CHECKS.due("breaches by 0", x.person(0, 7), 1);
        CHECKS.due("breaches by 1", x.person(1, 7), 0);
        CHECKS.due("breaches", x.count(7), 1);
        CHECKS.due("money", x.count(5), 120);
        x.setFine(30);
        CHECKS.due("breach for all that is free", x.breach(0, 2, 7), 30);
        CHECKS.due("debt", x.person(0, 2), 0);
        CHECKS.due("bid without a debt", x.bid(0, 2, 7, 0, 0), 0);
        CHECKS.due("breach for one who has nothing", x.breach(0, 2, 7), 0);
        x.setFine(0);
        CHECKS.due("breach for nothing", x.breach(1, 2, 7), 0);
        CHECKS.due("breaches", x.count(7), 4);
        CHECKS.due("purse 1", x.person(1, 0), 70);
        CHECKS.due("debt 1", x.person(1, 2), 0);
    }

    private static void promise7FineBecomesDebt() {
        Auction x = Auction.of(CHECKS, 50);
        x.bid(0, 0, 0, Checks.NOISE, 35);
        CHECKS.due("breach", x.breach(0, 1, 0), 15);
        CHECKS.due("purse", x.person(0, 0), 35);
        CHECKS.due("free", x.person(0, 1), 0);
        CHECKS.due("debt", x.person(0, 2), 5);
        CHECKS.due("breach again", x.breach(0, 1, 0), 0);
        CHECKS.due("debt", x.person(0, 2), 25);
        CHECKS.due("debts", x.count(6), 25);
        CHECKS.due("fund", x.fund(1), 15);
    }

    private static void promise7FineIsShared() {
        Auction x = Auction.of(CHECKS, 100, 100, 100, 100, 100);
        x.bid(0, 0, 6, Checks.QUIET, 10);
        x.bid(1, 0, 6, Checks.QUIET, 1);
        x.bid(2, 0, 6, Checks.QUIET, 1);
        x.bid(3, 0, 6, Checks.NOISE, 12);
        x.bid(4, 0, 7, Checks.NOISE, 1);
        x.settle();
        int fund = x.fund(0);
        CHECKS.due("purse 0", x.person(0, 0), 90);
        x.settle();
        CHECKS.due("breach", x.breach(4, 0, 6), 20);
        CHECKS.due("purse 0", x.person(0, 0), 96);
        CHECKS.due("purse 1", x.person(1, 0), 105);
        CHECKS.due("purse 2", x.person(2, 0), 105);
        CHECKS.due("purse 3", x.person(3, 0), 112);
        CHECKS.due("purse 4", x.person(4, 0), 79);
        CHECKS.due("fund", x.fund(0) - fund, 2);
        CHECKS.due("nothing of it is shared out by settling", x.person(0, 6), 0);
        // The winners are those of the day with bids last, not of all days.
        x.bid(3, 0, 6, Checks.QUIET, 1);
        x.settle();
        x.breach(4, 0, 6);
        CHECKS.due("purse 3", x.person(3, 0), 131);
        CHECKS.due("purse 0", x.person(0, 0), 96);
    }

    private static void promise7FineToOneself() {
        Auction x = Auction.of(CHECKS, 30, 30);
        x.bid(0, 0, 6, Checks.QUIET, 10);
        x.bid(1, 0, 6, Checks.QUIET, 10);
        x.settle();
        int fund = x.fund(0);
        CHECKS.due("breach", x.breach(0, 0, 6), 20);
        CHECKS.due("purse 0", x.person(0, 0), 10);
        CHECKS.due("purse 1", x.person(1, 0), 30);
        CHECKS.due("breach with a debt behind it", x.breach(0, 0, 6), 10);
        // The own part of 5 comes when there is a debt of 10 already.
        CHECKS.due("purse 0", x.person(0, 0), 0);
        CHECKS.due("debt 0", x.person(0, 2), 5);
        CHECKS.due("purse 1", x.person(1, 0), 35);
        CHECKS.due("fund", x.fund(0) - fund, 5);
    }

    private static void promise7FineToDebtors() {
        Auction x = Auction.of(CHECKS, 10, 100);
        x.bid(0, 0, 6, Checks.QUIET, 10);
        x.settle();
        x.breach(0, 3, 3);
        CHECKS.due("debt 0", x.person(0, 2), 20);
        x.setFine(15);
        CHECKS.due("breach", x.breach(1, 0, 6), 15);
        CHECKS.due("debt 0", x.person(0, 2), 5);
        CHECKS.due("purse 0", x.person(0, 0), 0);
        CHECKS.due("fund of the breach of 0", x.fund(3), 15);
        CHECKS.due("breach", x.breach(1, 0, 6), 15);
        CHECKS.due("debt 0", x.person(0, 2), 0);
        CHECKS.due("purse 0", x.person(0, 0), 10);
        CHECKS.due("fund of the breach of 0", x.fund(3), 20);
        CHECKS.due("fund of the breach of 1", x.fund(0), 10);
    }

    private static void promise7FundOfTheLatestBreach() {
        Auction x = Auction.of(CHECKS, 0, 0);
        x.breach(0, 1, 0);
        x.breach(1, 0, 0);
        x.pay(0, 5);
        CHECKS.due("fund 1", x.fund(1), 5);
        x.breach(0, 2, 0);
        x.pay(0, 5);
        CHECKS.due("fund 1", x.fund(1), 5);
        CHECKS.due("fund 2", x.fund(2), 5);
        x.setFine(0);
        x.breach(0, 3, 0);
        x.pay(0, 100);
        CHECKS.due("fund 2", x.fund(2), 5);
        CHECKS.due("fund 3", x.fund(3), 30);
        CHECKS.due("purse", x.person(0, 0), 70);
        x.pay(1, 20);
        CHECKS.due("fund 0", x.fund(0), 20);
        CHECKS.due("money", x.count(5), 130);
    }

    private static void promise7FineWithoutWinners() {
        Auction x = Auction.of(CHECKS, 100, 100);
        x.bid(0, 0, 6, Checks.QUIET, 10);
        x.settle();
        x.bid(0, 0, 6, Checks.QUIET, 8);
        x.bid(1, 0, 6, Checks.NOISE, 9);
        x.settle();
        // Carried quiet of 4 wins against 3, and nobody bids for it: the winners of day 0 get nothing.
        x.bid(1, 0, 6, Checks.NOISE, 3);
        x.settle();
        int before = x.person(0, 0);
        int fund = x.fund(0);
        CHECKS.due("breach", x.breach(1, 0, 6), 20);
        CHECKS.due("purse 0", x.person(0, 0), before);
        CHECKS.due("fund", x.fund(0) - fund, 20);
    }

    private static void promise7Errors() {
        Auction x = Auction.of(CHECKS, 100);
        x.bid(0, 2, 4, Checks.NOISE, 1);
        CHECKS.due("breach before noise has won", x.breach(0, 2, 4), 20);
        x.settle();
        String before = x.allSeen();
        CHECKS.due("breach of noise", x.breach(0, 2, 4), Checks.ILLEGAL);
        CHECKS.due("person 1", x.breach(1, 2, 4), Checks.INVALID);
        CHECKS.due("street 4", x.breach(0, 4, 4), Checks.INVALID);
        CHECKS.due("hour 24", x.breach(0, 2, 24), Checks.INVALID);
        for (int far : Checks.FAR_OFF) {
            CHECKS.due("person " + far, x.breach(far, 2, 4), Checks.INVALID);
            CHECKS.due("street " + far, x.breach(0, far, 4), Checks.INVALID);
            CHECKS.due("hour " + far, x.breach(0, 2, far), Checks.INVALID);
        }
        CHECKS.dueText("nothing has changed", x.allSeen(), before);
    }

    private static void promise8Undo() {
        Auction x = Auction.of(CHECKS);
        CHECKS.due("undo of nothing", x.undo(), Checks.ILLEGAL);
        String[] before = new String[8];
        for (int step = 0; step < 8; step++) {
            before[step] = x.seen();
            x.join(step);
            CHECKS.due("states", x.count(8), Math.min(step + 1, 5));
        }
        for (int step = 7; step >= 3; step--) {
            CHECKS.due("undo", x.undo(), step - 3);
            CHECKS.dueText("the state before step " + step, x.seen(), before[step]);
        }
        CHECKS.due("undo of what was dropped", x.undo(), Checks.ILLEGAL);
        CHECKS.due("people", x.count(1), 3);
        CHECKS.due("join", x.join(5), 3);
        CHECKS.due("undo", x.undo(), 0);
        CHECKS.due("people", x.count(1), 3);
    }

    private static void promise8UndoEachAction() {
        Auction x = Auction.of(CHECKS, 10, 100);
        x.bid(0, 0, 0, Checks.QUIET, 5);
        x.bid(1, 0, 0, Checks.NOISE, 50);
        x.bid(1, 1, 0, Checks.QUIET, 3);
        x.settle();
        x.breach(0, 2, 2);
        x.bid(1, 0, 0, Checks.NOISE, 4);
        x.bid(1, 2, 2, Checks.NOISE, 7);
        x.write("q1:0-2=1;");
        for (int action = 0; action < 9; action++) {
            String before = x.seen();
            int answer = act(x, action);
            CHECKS.due("action " + action + " answers " + answer + ", no error", answer >= 0 ? 1 : 0, 1);
            CHECKS.due("states behind action " + action, x.count(8), 5);
            CHECKS.due("undo of action " + action, x.undo(), 4);
            CHECKS.dueText("state before action " + action, x.seen(), before);
        }
    }

    private static int act(Auction x, int action) {
        switch (action) {
            case 0: return x.join(3);
            case 1: return x.pay(0, 9);
            case 2: return x.pay(1, -9);
            case 3: return x.bid(1, 0, 0, Checks.QUIET, 9);
            case 4: return x.bid(1, 0, 0, Checks.QUIET, 0);
            case 5: return x.setFine(99);
            case 6: return x.settle();
            case 7: return x.breach(1, 1, 0);
            default: return x.run(1);
        }
    }

    /** Whom a fine goes to, which fund a debt, and which side a tie: it shows only in what is done next. */
    private static void promise8UndoOfWhatIsNotSeen() {
        Auction x = Auction.of(CHECKS, 0, 100, 100);
        x.bid(1, 0, 0, Checks.QUIET, 4);
        x.settle();
        x.breach(0, 1, 0);
        x.bid(2, 0, 0, Checks.QUIET, 5);
        x.settle();
        x.undo();
        x.undo();
        x.breach(0, 2, 0);
        x.undo();
        x.pay(0, 20);
        CHECKS.due("the debt goes to the street of the breach that stays", x.fund(1), 20);
        CHECKS.due("purse 1", x.person(1, 0), 96);
        CHECKS.due("breach", x.breach(2, 0, 0), 20);
        CHECKS.due("the fine goes to the winner of the day that stays", x.person(1, 0), 116);
        x.bid(1, 0, 0, Checks.QUIET, 4);
        x.bid(2, 0, 0, Checks.NOISE, 5);
        x.settle();
        CHECKS.due("shared out", x.person(1, 6), 5);
        x.undo();
        CHECKS.due("nothing shared out", x.person(1, 6), 0);
        x.bid(2, 0, 0, Checks.NOISE, 4);
        CHECKS.due("the tie of the day that stays", x.winner(0, 0), Checks.NOISE);
    }

    private static void promise8UndoKeepsTextAndFailure() {
        Auction x = Auction.of(CHECKS, 10);
        x.write("q0:0=1;");
        x.run(0);
        x.runText(0, "q0:0=1;x");
        x.undo();
        CHECKS.due("the bid is gone", x.bidOf(0, 0, 0), Checks.NONE);
        CHECKS.due("the text stays", x.count(9), 8);
        CHECKS.due("the failure stays", x.failure(1), 7);
        x.undo();
        CHECKS.due("people", x.count(1), 0);
        CHECKS.due("the text stays", x.clearText(), 8);
        CHECKS.due("the failure stays", x.failure(0), 1);
    }

    private static void promise8UnsuccessfulCallsAreNotRecorded() {
        Auction x = Auction.of(CHECKS, 10);
        x.join(-1);
        x.pay(0, -11);
        x.bid(0, 0, 0, 0, 11);
        x.setFine(-1);
        x.breach(0, 4, 0);
        x.runText(0, "q0:0=11;");
        x.run(1);
        x.runText(0, "q0:0=11");
        CHECKS.due("states", x.count(8), 1);
        x.undo();
        x.undo();
        CHECKS.due("states", x.count(8), 0);
    }
}
