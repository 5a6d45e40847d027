import java.util.ArrayDeque;
import java.util.ArrayList;
import java.util.Arrays;
import java.util.List;
import java.util.TreeMap;

/**
 * A second writing of the document, for tests alone: it shares nothing with the class and is written for being
 * held against the document's sentences, with the Java library at hand.
 */
final class Model {
    private static final int INVALID = -1;
    private static final int ILLEGAL = -2;
    private static final int FULL = -3;
    private static final int NONE = -9;

    private static final class Person {
        int purse;
        int debt;
        int streetOfLastBreach;
        int won;
        int paid;
        int shared;
        int breaches;
        /** Slot to {side, amount}. */
        TreeMap<Integer, int[]> bids = new TreeMap<>();

        int free() {
            return purse - bids.values().stream().mapToInt(bid -> bid[1]).sum();
        }

        Person copy() {
            Person copy = new Person();
            copy.purse = purse;
            copy.debt = debt;
            copy.streetOfLastBreach = streetOfLastBreach;
            copy.won = won;
            copy.paid = paid;
            copy.shared = shared;
            copy.breaches = breaches;
            bids.forEach((slot, bid) -> copy.bids.put(slot, bid.clone()));
            return copy;
        }
    }

    private static final class Slot {
        int side;
        int carried;
        /** The side that won when there were bids last, or null. */
        Integer lastWinner;
        List<Integer> lastQuietWinners = new ArrayList<>();
        int paid;

        Slot copy() {
            Slot copy = new Slot();
            copy.side = side;
            copy.carried = carried;
            copy.lastWinner = lastWinner;
            copy.lastQuietWinners = new ArrayList<>(lastQuietWinners);
            copy.paid = paid;
            return copy;
        }
    }

    private static final class World {
        int day;
        int fine = 20;
        int breaches;
        int[] funds = new int[4];
        List<Person> people = new ArrayList<>();
        List<Slot> slots = new ArrayList<>();

        World copy() {
            World copy = new World();
            copy.day = day;
            copy.fine = fine;
            copy.breaches = breaches;
            copy.funds = funds.clone();
            people.forEach(person -> copy.people.add(person.copy()));
            slots.forEach(slot -> copy.slots.add(slot.copy()));
            return copy;
        }

        void moneyComes(Person person, int money) {
            while (money > 0 && person.debt > 0) {
                money--;
                person.debt--;
                funds[person.streetOfLastBreach]++;
            }
            person.purse += money;
        }

        int sum(int slot, int side) {
            int sum = 0;
            for (Person person : people) {
                int[] bid = person.bids.get(slot);
                if (bid != null && bid[0] == side) {
                    sum += bid[1];
                }
            }
            return sum;
        }

        int bidsFor(int slot) {
            return (int) people.stream().filter(person -> person.bids.containsKey(slot)).count();
        }

        int winner(int slot, int moreQuiet, int moreNoise) {
            Slot of = slots.get(slot);
            if (bidsFor(slot) == 0 && moreQuiet == 0 && moreNoise == 0) {
                return of.side;
            }
            int quiet = sum(slot, 0) + of.carried + moreQuiet;
            int noise = sum(slot, 1) + moreNoise;
            if (quiet > noise) {
                return 0;
            }
            if (noise > quiet) {
                return 1;
            }
            if (of.lastWinner == null) {
                return 0;
            }
            return of.lastWinner == 0 ? 1 : 0;
        }

        void settle() {
            for (int slot = 0; slot < 96; slot++) {
                settle(slot, slots.get(slot));
            }
            for (Person person : people) {
                person.bids.clear();
            }
            day++;
        }

        private void settle(int slot, Slot of) {
            of.paid = 0;
            if (bidsFor(slot) == 0) {
                of.carried = of.carried / 2;
                return;
            }
            int winner = winner(slot, 0, 0);
            int quietStrength = sum(slot, 0) + of.carried;
            List<Integer> quietWinners = new ArrayList<>();
            for (int i = 0; i < people.size(); i++) {
                Person person = people.get(i);
                int[] bid = person.bids.get(slot);
                if (bid != null && bid[0] == winner) {
                    person.purse -= bid[1];
                    person.paid += bid[1];
                    person.won++;
                    of.paid += bid[1];
                    if (winner == 0) {
                        quietWinners.add(i);
                    }
                }
            }
            int left = of.paid;
            int losing = sum(slot, 1 - winner);
            for (Person person : people) {
                int[] bid = person.bids.get(slot);
                if (bid != null && bid[0] != winner) {
                    int share = of.paid * bid[1] / losing;
                    left -= share;
                    person.shared += share;
                    moneyComes(person, share);
                }
            }
            funds[slot / 24] += left;
            of.carried = winner == 1 ? quietStrength / 2 : 0;
            of.side = winner;
            of.lastWinner = winner;
            of.lastQuietWinners = quietWinners;
        }
    }

    private static final class PlanFailure extends RuntimeException {
        private static final long serialVersionUID = 1L;
        final int place;
        final int depth;

        PlanFailure(int place, int depth) {
            super(null, null, false, false);
            this.place = place;
            this.depth = depth;
        }
    }

    private World world = new World();
    private final ArrayDeque<World> history = new ArrayDeque<>();
    private String text = "";
    private int[] failure;

    Model() {
        for (int slot = 0; slot < 96; slot++) {
            world.slots.add(new Slot());
        }
    }

    private void record(World before) {
        history.addLast(before);
        if (history.size() > 5) {
            history.removeFirst();
        }
    }

    private boolean noPerson(int person) {
        return person < 0 || person >= world.people.size();
    }

    private static boolean noSlot(int street, int hour) {
        return street < 0 || street > 3 || hour < 0 || hour > 23;
    }

    int join(int purse) {
        if (purse < 0 || purse > 100000) {
            return INVALID;
        }
        if (world.people.size() == 12) {
            return FULL;
        }
        record(world.copy());
        Person person = new Person();
        person.purse = purse;
        world.people.add(person);
        return world.people.size() - 1;
    }

    int pay(int person, int amount) {
        if (noPerson(person) || amount < -100000 || amount > 100000) {
            return INVALID;
        }
        Person payee = world.people.get(person);
        if (amount < 0 && (payee.free() + amount < 0 || payee.debt > 0)) {
            return ILLEGAL;
        }
        World before = world.copy();
        if (amount > 0) {
            world.moneyComes(payee, amount);
        } else {
            payee.purse += amount;
        }
        if (payee.purse > 10000000) {
            world = before;
            return ILLEGAL;
        }
        record(before);
        return payee.purse;
    }

    int bid(int person, int street, int hour, int side, int amount) {
        World before = world.copy();
        int answer = bidUnrecorded(person, street, hour, side, amount);
        if (answer >= 0) {
            record(before);
        }
        return answer;
    }

    private int bidUnrecorded(int person, int street, int hour, int side, int amount) {
        if (noPerson(person) || noSlot(street, hour) || side < 0 || side > 1 || amount < 0 || amount > 999) {
            return INVALID;
        }
        Person bidder = world.people.get(person);
        if (bidder.debt > 0) {
            return ILLEGAL;
        }
        int slot = street * 24 + hour;
        int[] previous = bidder.bids.remove(slot);
        if (amount > 0) {
            bidder.bids.put(slot, new int[] {side, amount});
        }
        if (bidder.free() < 0) {
            bidder.bids.remove(slot);
            if (previous != null) {
                bidder.bids.put(slot, previous);
            }
            return ILLEGAL;
        }
        return bidder.free();
    }

    int setFine(int fine) {
        if (fine < 0 || fine > 1000) {
            return INVALID;
        }
        record(world.copy());
        int previous = world.fine;
        world.fine = fine;
        return previous;
    }

    int settle() {
        if (world.day == 999) {
            return ILLEGAL;
        }
        record(world.copy());
        world.settle();
        return count(3);
    }

    int breach(int person, int street, int hour) {
        if (noPerson(person) || noSlot(street, hour)) {
            return INVALID;
        }
        Slot slot = world.slots.get(street * 24 + hour);
        if (slot.side == 1) {
            return ILLEGAL;
        }
        record(world.copy());
        Person breacher = world.people.get(person);
        world.breaches++;
        breacher.breaches++;
        breacher.streetOfLastBreach = street;
        int paid = Math.min(world.fine, breacher.free());
        breacher.purse -= paid;
        breacher.debt += world.fine - paid;
        int left = paid;
        for (int winner : slot.lastQuietWinners) {
            int part = paid / slot.lastQuietWinners.size();
            world.moneyComes(world.people.get(winner), part);
            left -= part;
        }
        world.funds[street] += left;
        return paid;
    }

    int undo() {
        if (history.isEmpty()) {
            return ILLEGAL;
        }
        world = history.removeLast();
        return history.size();
    }

    int append(int character) {
        if (character < 1 || character > 255) {
            return INVALID;
        }
        if (text.length() == 100) {
            return FULL;
        }
        text += (char) character;
        return text.length();
    }

    int clearText() {
        int previous = text.length();
        text = "";
        return previous;
    }

    int run(int person) {
        if (noPerson(person)) {
            return INVALID;
        }
        List<int[]> bids = new ArrayList<>();
        try {
            int end = readPlan(0, 0, 1, bids);
            if (end < text.length()) {
                throw new PlanFailure(end, 0);
            }
        } catch (PlanFailure reading) {
            return failed(1, reading.place, reading.depth, 0, NONE);
        }
        World before = world.copy();
        int made = 0;
        for (int[] bid : bids) {
            int answer = bidUnrecorded(person, bid[0], bid[1], bid[2], bid[3]);
            if (answer < 0) {
                world = before;
                return failed(2, bid[4], bid[5], made, answer);
            }
            made++;
        }
        record(before);
        return made;
    }

    private int failed(int... parts) {
        failure = parts;
        return -1000 - parts[1];
    }

    private char at(int place) {
        return place < text.length() ? text.charAt(place) : 0;
    }

    /** Reads parts from a place on, and returns the place where no part begins: the end, or a closing bracket. */
    private int readPlan(int place, int depth, int factor, List<int[]> bids) {
        while (place < text.length() && at(place) != ')') {
            char first = at(place);
            int own = 1;
            if (Character.toString(first).matches("[0-9]")) {
                int end = readNumber(place, depth, 2, 9);
                own = Integer.parseInt(text.substring(place, end));
                expect(end, "[*]", depth);
                place = end + 1;
            }
            if (own > 1 || first == '(') {
                expect(place, "[(]", depth);
                if (depth == 4) {
                    throw new PlanFailure(place, depth);
                }
                place = readPlan(place + 1, depth + 1, factor * own, bids);
                expect(place, "[)]", depth + 1);
                place++;
            } else {
                place = readBids(place, depth, factor, bids);
            }
        }
        return place;
    }

    private int readBids(int start, int depth, int factor, List<int[]> bids) {
        expect(start, "[qn]", depth);
        expect(start + 1, "[0-3]", depth);
        expect(start + 2, "[:]", depth);
        int firstEnd = readNumber(start + 3, depth, 0, 23);
        int first = Integer.parseInt(text.substring(start + 3, firstEnd));
        int last = first;
        int place = firstEnd;
        if (at(place) == '-') {
            place = readNumber(firstEnd + 1, depth, first, 23);
            last = Integer.parseInt(text.substring(firstEnd + 1, place));
        }
        expect(place, "[=]", depth);
        int end = readNumber(place + 1, depth, 1, 999);
        int amount = factor * Integer.parseInt(text.substring(place + 1, end));
        expect(end, "[;]", depth);
        for (int hour = first; hour <= last; hour++) {
            bids.add(new int[] {at(start + 1) - '0', hour, at(start) == 'q' ? 0 : 1, amount, start, depth});
        }
        return end + 1;
    }

    private int readNumber(int start, int depth, int least, int most) {
        expect(start, "[0-9]", depth);
        int end = start + 1;
        while (Character.toString(at(end)).matches("[0-9]")) {
            if (at(start) == '0' || end - start == 3) {
                throw new PlanFailure(end, depth);
            }
            end++;
        }
        int number = Integer.parseInt(text.substring(start, end));
        if (number < least || number > most) {
            throw new PlanFailure(start, depth);
        }
        return end;
    }

    private void expect(int place, String pattern, int depth) {
        if (!Character.toString(at(place)).matches(pattern)) {
            throw new PlanFailure(place, depth);
        }
    }

    int failure(int what) {
        if (what < 0 || what > 4) {
            return INVALID;
        }
        return failure == null ? NONE : failure[what];
    }

    int count(int what) {
        List<Person> people = world.people;
        switch (what) {
            case 0: return world.day;
            case 1: return people.size();
            case 2: return people.stream().mapToInt(person -> person.bids.size()).sum();
            case 3: return (int) world.slots.stream().filter(slot -> slot.side == 1).count();
            case 4: return world.fine;
            case 5: return people.stream().mapToInt(person -> person.purse).sum() + Arrays.stream(world.funds).sum();
            case 6: return people.stream().mapToInt(person -> person.debt).sum();
            case 7: return world.breaches;
            case 8: return history.size();
            case 9: return text.length();
            default: return INVALID;
        }
    }

    int person(int person, int what) {
        if (noPerson(person) || what < 0 || what > 7) {
            return INVALID;
        }
        Person of = world.people.get(person);
        int[] properties = {of.purse, of.free(), of.debt, of.bids.size(), of.won, of.paid, of.shared, of.breaches};
        return properties[what];
    }

    int slot(int street, int hour, int what) {
        if (noSlot(street, hour) || what < 0 || what > 5) {
            return INVALID;
        }
        int slot = street * 24 + hour;
        Slot of = world.slots.get(slot);
        int[] properties = {of.side, world.sum(slot, 0), world.sum(slot, 1), of.carried, world.bidsFor(slot), of.paid};
        return properties[what];
    }

    int bidOf(int person, int street, int hour) {
        if (noPerson(person) || noSlot(street, hour)) {
            return INVALID;
        }
        int[] bid = world.people.get(person).bids.get(street * 24 + hour);
        return bid == null ? NONE : bid[0] * 1000 + bid[1];
    }

    int fund(int street) {
        return street < 0 || street > 3 ? INVALID : world.funds[street];
    }

    int winner(int street, int hour) {
        return noSlot(street, hour) ? INVALID : world.winner(street * 24 + hour, 0, 0);
    }

    int needed(int street, int hour, int side) {
        if (noSlot(street, hour) || side < 0 || side > 1) {
            return INVALID;
        }
        int amount = 0;
        while (world.winner(street * 24 + hour, side == 0 ? amount : 0, side == 1 ? amount : 0) != side) {
            amount++;
        }
        return amount;
    }

    int quiet(int street, int what) {
        if (street < 0 || street > 3 || what < 0 || what > 2) {
            return INVALID;
        }
        StringBuilder sides = new StringBuilder();
        for (Slot slot : world.slots.subList(street * 24, street * 24 + 24)) {
            sides.append(slot.side == 0 ? 'q' : 'n');
        }
        if (what == 0) {
            return sides.toString().replace("n", "").length();
        }
        int longest = 24;
        while (sides.indexOf("q".repeat(longest)) < 0) {
            longest--;
        }
        if (what == 1) {
            return longest;
        }
        return longest == 0 ? NONE : sides.indexOf("q".repeat(longest));
    }

    int purseThen(int person) {
        if (noPerson(person)) {
            return INVALID;
        }
        World then = world.copy();
        then.settle();
        return then.people.get(person).purse;
    }
}
