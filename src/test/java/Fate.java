import java.util.ArrayList;
import java.util.List;

/**
 * What later calls show of an auction: rounds of calls, each for an object of its own, as one object has 512 calls
 * alone. Some look; others do what brings to light what no call shows at once, like the side that wins a tie.
 */
final class Fate {
    private static final int STREETS = 4;
    private static final int HOURS = 24;

    private Fate() {
    }

    /** The rounds that show the state, the text and the history. */
    static List<Auction.Story> rounds() {
        List<Auction.Story> rounds = new ArrayList<>(List.of(Fate::people, Fate::undo, Fate::runText, Fate::settle,
            Fate::payAll));
        for (int i = 0; i < STREETS; i++) {
            int street = i;
            rounds.add(x -> slots(x, street));
            rounds.add(x -> bids(x, street));
            rounds.add(x -> ties(x, street));
            rounds.add(x -> fines(x, street));
        }
        return rounds;
    }

    /** The rounds that show all that a call can show. */
    static List<Auction.Story> roundsAndFailure() {
        List<Auction.Story> rounds = rounds();
        rounds.add(Fate::failure);
        return rounds;
    }

    private static void failure(Auction x) {
        for (int what = 0; what <= 4; what++) {
            x.failure(what);
        }
    }

    private static void people(Auction x) {
        for (int what = 0; what <= 9; what++) {
            x.count(what);
        }
        int people = x.count(1);
        for (int person = 0; person < people; person++) {
            for (int what = 0; what <= 7; what++) {
                x.person(person, what);
            }
            x.purseThen(person);
        }
        for (int street = 0; street < STREETS; street++) {
            x.fund(street);
            for (int what = 0; what <= 2; what++) {
                x.quiet(street, what);
            }
        }
    }

    private static void undo(Auction x) {
        for (int times = 0; times < 6; times++) {
            x.undo();
            for (int what = 0; what <= 9; what++) {
                x.count(what);
            }
            int people = x.count(1);
            for (int person = 0; person < people; person++) {
                x.person(person, 0);
                x.person(person, 2);
                x.person(person, 3);
            }
            for (int street = 0; street < STREETS; street++) {
                x.fund(street);
            }
        }
    }

    /** A person with money: a new one, or the last of twelve. */
    private static int newcomer(Auction x) {
        x.join(0);
        int newcomer = x.count(1) - 1;
        x.pay(newcomer, 100000);
        return newcomer;
    }

    private static void runText(Auction x) {
        if (x.run(newcomer(x)) < 0) {
            failure(x);
        }
        people(x);
    }

    private static void settle(Auction x) {
        x.settle();
        people(x);
        x.undo();
        x.count(0);
    }

    /** The fund that gets what is paid is the one of the street of a debtor's last breach. */
    private static void payAll(Auction x) {
        int people = x.count(1);
        for (int person = 0; person < people; person++) {
            x.pay(person, 1);
            for (int street = 0; street < STREETS; street++) {
                x.fund(street);
            }
        }
    }

    private static void slots(Auction x, int street) {
        for (int hour = 0; hour < HOURS; hour++) {
            for (int what = 0; what <= 5; what++) {
                x.slot(street, hour, what);
            }
            x.winner(street, hour);
            x.needed(street, hour, 0);
            x.needed(street, hour, 1);
        }
    }

    private static void bids(Auction x, int street) {
        int people = x.count(1);
        for (int person = 0; person < people; person++) {
            for (int hour = 0; hour < HOURS; hour++) {
                x.bidOf(person, street, hour);
            }
        }
    }

    /** With a bid for the slot, what is needed tells which side wins a tie. */
    private static void ties(Auction x, int street) {
        int newcomer = newcomer(x);
        for (int hour = 0; hour < HOURS; hour++) {
            x.bid(newcomer, street, hour, 1, 1);
            x.needed(street, hour, 0);
            x.needed(street, hour, 1);
        }
    }

    /** Whose purse is larger behind a fine tells who won the slot for quiet last. */
    private static void fines(Auction x, int street) {
        int newcomer = newcomer(x);
        for (int hour = 0; hour < HOURS; hour++) {
            x.breach(newcomer, street, hour);
            for (int person = 0; person <= newcomer; person++) {
                x.person(person, 0);
            }
        }
    }
}
