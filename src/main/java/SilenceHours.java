import java.util.Arrays;

/** An auction of silence: people bid for quiet or for noise in hours of streets. */
public final class SilenceHours {
    public static final int INVALID_ARGUMENT = -1;
    public static final int ILLEGAL_STATE = -2;
    public static final int CAPACITY_EXCEEDED = -3;
    public static final int NONE = -9;

    private static final int STREETS = 4;
    private static final int HOURS = 24;
    private static final int SLOTS = STREETS * HOURS;
    private static final int QUIET = 0;
    private static final int NOISE = 1;

    private static final int PEOPLE_LIMIT = 12;
    private static final int JOIN_LIMIT = 100000;
    private static final int PAY_LIMIT = 100000;
    private static final int PURSE_LIMIT = 10000000;
    private static final int BID_LIMIT = 999;
    private static final int NOISE_MARK = 1000;
    private static final int FINE_LIMIT = 1000;
    private static final int FIRST_FINE = 20;
    private static final int LAST_DAY = 999;

    private static final int HISTORY_LIMIT = 5;
    private static final int TEXT_LIMIT = 100;
    private static final int CHARACTER_LIMIT = 255;
    private static final int NUMBER_DIGITS = 3;
    private static final int LEAST_FACTOR = 2;
    private static final int GREATEST_FACTOR = 9;
    private static final int DEPTH_LIMIT = 4;
    private static final int SHORTEST_PART = 7;
    private static final int PARTS_LIMIT = TEXT_LIMIT / SHORTEST_PART;

    private static final int FAILURE_PARTS = 5;
    private static final int READING_FAILED = 1;
    private static final int BID_FAILED = 2;
    private static final int FAILED_PLAN = -1000;

    private final State state;
    private final State spare;
    private final History history;
    private final Plan plan;
    private final int[] failureParts;

    public SilenceHours() {
        state = new State();
        spare = new State();
        history = new History();
        plan = new Plan();
        failureParts = new int[FAILURE_PARTS];
    }

    // ---- people and bids

    public int join(int purse) {
        if (!isWithin(purse, 0, JOIN_LIMIT)) {
            return INVALID_ARGUMENT;
        }
        if (state.people >= PEOPLE_LIMIT) {
            return CAPACITY_EXCEEDED;
        }
        history.record(state);
        state.purses[state.people] = purse;
        state.people++;
        return state.people - 1;
    }

    public int pay(int person, int amount) {
        if (!isPerson(person) || !isWithin(amount, -PAY_LIMIT, PAY_LIMIT)) {
            return INVALID_ARGUMENT;
        }
        if (!state.canBePaid(person, amount)) {
            return ILLEGAL_STATE;
        }
        history.record(state);
        if (amount < 0) {
            state.purses[person] += amount;
        } else {
            state.receive(person, amount);
        }
        return state.purses[person];
    }

    public int bid(int person, int street, int hour, int side, int amount) {
        if (!isPerson(person) || !isSlot(street, hour) || !isSide(side)) {
            return INVALID_ARGUMENT;
        }
        int slot = slotAt(street, hour);
        int error = state.bidError(person, slot, amount);
        if (error != 0) {
            return error;
        }
        history.record(state);
        return state.placeBid(person, slot, side, amount);
    }

    public int setFine(int fine) {
        if (!isWithin(fine, 0, FINE_LIMIT)) {
            return INVALID_ARGUMENT;
        }
        history.record(state);
        int previous = state.fine;
        state.fine = fine;
        return previous;
    }

    // ---- days and breaches

    public int settle() {
        if (state.day >= LAST_DAY) {
            return ILLEGAL_STATE;
        }
        history.record(state);
        state.settleDay();
        return state.noisySlots();
    }

    public int breach(int person, int street, int hour) {
        if (!isPerson(person) || !isSlot(street, hour)) {
            return INVALID_ARGUMENT;
        }
        int slot = slotAt(street, hour);
        if (state.owners[slot] == NOISE) {
            return ILLEGAL_STATE;
        }
        history.record(state);
        return state.noteBreach(person, slot);
    }

    public int undo() {
        if (history.size == 0) {
            return ILLEGAL_STATE;
        }
        history.restoreLatest(state);
        return history.size;
    }

    // ---- plans

    public int append(int character) {
        if (!isWithin(character, 1, CHARACTER_LIMIT)) {
            return INVALID_ARGUMENT;
        }
        if (plan.length >= TEXT_LIMIT) {
            return CAPACITY_EXCEEDED;
        }
        plan.text[plan.length] = character;
        plan.length++;
        return plan.length;
    }

    public int clearText() {
        int previous = plan.length;
        plan.length = 0;
        return previous;
    }

    public int run(int person) {
        if (!isPerson(person)) {
            return INVALID_ARGUMENT;
        }
        if (!plan.readText()) {
            return failPlan(READING_FAILED, plan.failedAt, plan.depth, 0, NONE);
        }
        spare.copyFrom(state);
        int made = 0;
        for (int i = 0; i < plan.partCount; i++) {
            Part part = plan.parts[i];
            for (int hour = part.firstHour; hour <= part.lastHour; hour++) {
                int slot = slotAt(part.street, hour);
                int error = state.bidError(person, slot, part.amount);
                if (error != 0) {
                    state.copyFrom(spare);
                    return failPlan(BID_FAILED, part.place, part.depth, made, error);
                }
                state.placeBid(person, slot, part.side, part.amount);
                made++;
            }
        }
        history.record(spare);
        return made;
    }

    public int failure(int what) {
        if (!isWithin(what, 0, FAILURE_PARTS - 1)) {
            return INVALID_ARGUMENT;
        }
        boolean neverFailed = failureParts[0] == 0;
        return neverFailed ? NONE : failureParts[what];
    }

    // ---- looking

    public int count(int what) {
        switch (what) {
            case 0: return state.day;
            case 1: return state.people;
            case 2: return state.allBids();
            case 3: return state.noisySlots();
            case 4: return state.fine;
            case 5: return state.allMoney();
            case 6: return state.allDebts();
            case 7: return state.breaches;
            case 8: return history.size;
            case 9: return plan.length;
            default: return INVALID_ARGUMENT;
        }
    }

    public int person(int person, int what) {
        if (!isPerson(person)) {
            return INVALID_ARGUMENT;
        }
        switch (what) {
            case 0: return state.purses[person];
            case 1: return state.freeMoney(person);
            case 2: return state.debts[person];
            case 3: return state.bidsBy(person);
            case 4: return state.bidsWon[person];
            case 5: return state.paidForWon[person];
            case 6: return state.sharedOut[person];
            case 7: return state.breachesBy[person];
            default: return INVALID_ARGUMENT;
        }
    }

    public int slot(int street, int hour, int what) {
        if (!isSlot(street, hour)) {
            return INVALID_ARGUMENT;
        }
        int slot = slotAt(street, hour);
        switch (what) {
            case 0: return state.owners[slot];
            case 1: return state.sumOfBids(slot, QUIET);
            case 2: return state.sumOfBids(slot, NOISE);
            case 3: return state.carried[slot];
            case 4: return state.bidsFor(slot);
            case 5: return state.lastPaid[slot];
            default: return INVALID_ARGUMENT;
        }
    }

    public int bidOf(int person, int street, int hour) {
        if (!isPerson(person) || !isSlot(street, hour)) {
            return INVALID_ARGUMENT;
        }
        int marked = state.markedBid(person, slotAt(street, hour));
        return marked == 0 ? NONE : marked;
    }

    public int fund(int street) {
        return isStreet(street) ? state.funds[street] : INVALID_ARGUMENT;
    }

    // ---- what could be, which changes nothing

    public int winner(int street, int hour) {
        return isSlot(street, hour) ? state.ownerThen(slotAt(street, hour)) : INVALID_ARGUMENT;
    }

    public int needed(int street, int hour, int side) {
        if (!isSlot(street, hour) || !isSide(side)) {
            return INVALID_ARGUMENT;
        }
        return state.missingFor(slotAt(street, hour), side);
    }

    public int quiet(int street, int what) {
        if (!isStreet(street)) {
            return INVALID_ARGUMENT;
        }
        switch (what) {
            case 0: return state.quietHours(street);
            case 1: return state.longestQuiet(street);
            case 2: return state.longestQuietStart(street);
            default: return INVALID_ARGUMENT;
        }
    }

    public int purseThen(int person) {
        if (!isPerson(person)) {
            return INVALID_ARGUMENT;
        }
        spare.copyFrom(state);
        spare.settleDay();
        return spare.purses[person];
    }

    // ---- helpers

    private int failPlan(int kind, int place, int depth, int bidsBefore, int error) {
        failureParts[0] = kind;
        failureParts[1] = place;
        failureParts[2] = depth;
        failureParts[3] = bidsBefore;
        failureParts[4] = error;
        return FAILED_PLAN - place;
    }

    private boolean isPerson(int person) {
        return isWithin(person, 0, state.people - 1);
    }

    private static boolean isStreet(int street) {
        return isWithin(street, 0, STREETS - 1);
    }

    private static boolean isSlot(int street, int hour) {
        return isStreet(street) && isWithin(hour, 0, HOURS - 1);
    }

    private static boolean isSide(int side) {
        return side == QUIET || side == NOISE;
    }

    private static boolean isWithin(int value, int least, int most) {
        return value >= least && value <= most;
    }

    private static int slotAt(int street, int hour) {
        return street * HOURS + hour;
    }

    private static int otherSide(int side) {
        return side == QUIET ? NOISE : QUIET;
    }

    /** All that undo() brings back. Its callers have looked at the persons, slots and streets that they name. */
    private static final class State {
        int day;
        int fine = FIRST_FINE;
        int breaches;
        int people;
        final int[] purses = new int[PEOPLE_LIMIT];
        final int[] heldForBids = new int[PEOPLE_LIMIT];
        final int[] debts = new int[PEOPLE_LIMIT];
        final int[] breachStreets = new int[PEOPLE_LIMIT];
        final int[] bidsWon = new int[PEOPLE_LIMIT];
        final int[] paidForWon = new int[PEOPLE_LIMIT];
        final int[] sharedOut = new int[PEOPLE_LIMIT];
        final int[] breachesBy = new int[PEOPLE_LIMIT];
        // A row of slots for each person: 0 without a bid, noise with NOISE_MARK on top, as bidOf() tells it.
        final int[] bids = new int[PEOPLE_LIMIT * SLOTS];
        final int[] owners = new int[SLOTS];
        final int[] carried = new int[SLOTS];
        final int[] tieSides = new int[SLOTS];
        // A bit for each person who won the slot for quiet when it was settled with bids last.
        final int[] quietWinners = new int[SLOTS];
        final int[] lastPaid = new int[SLOTS];
        final int[] funds = new int[STREETS];

        void copyFrom(State from) {
            day = from.day;
            fine = from.fine;
            breaches = from.breaches;
            people = from.people;
            System.arraycopy(from.purses, 0, purses, 0, PEOPLE_LIMIT);
            System.arraycopy(from.heldForBids, 0, heldForBids, 0, PEOPLE_LIMIT);
            System.arraycopy(from.debts, 0, debts, 0, PEOPLE_LIMIT);
            System.arraycopy(from.breachStreets, 0, breachStreets, 0, PEOPLE_LIMIT);
            System.arraycopy(from.bidsWon, 0, bidsWon, 0, PEOPLE_LIMIT);
            System.arraycopy(from.paidForWon, 0, paidForWon, 0, PEOPLE_LIMIT);
            System.arraycopy(from.sharedOut, 0, sharedOut, 0, PEOPLE_LIMIT);
            System.arraycopy(from.breachesBy, 0, breachesBy, 0, PEOPLE_LIMIT);
            System.arraycopy(from.bids, 0, bids, 0, PEOPLE_LIMIT * SLOTS);
            System.arraycopy(from.owners, 0, owners, 0, SLOTS);
            System.arraycopy(from.carried, 0, carried, 0, SLOTS);
            System.arraycopy(from.tieSides, 0, tieSides, 0, SLOTS);
            System.arraycopy(from.quietWinners, 0, quietWinners, 0, SLOTS);
            System.arraycopy(from.lastPaid, 0, lastPaid, 0, SLOTS);
            System.arraycopy(from.funds, 0, funds, 0, STREETS);
        }

        // -- bids

        int markedBid(int person, int slot) {
            return bids[person * SLOTS + slot];
        }

        /** The amount that a person bids for a side of a slot, 0 without such a bid. */
        int bidFor(int person, int slot, int side) {
            int marked = bids[person * SLOTS + slot];
            boolean isNoise = marked > NOISE_MARK;
            if (side == NOISE) {
                return isNoise ? marked - NOISE_MARK : 0;
            }
            return isNoise ? 0 : marked;
        }

        int bidAmount(int person, int slot) {
            return bidFor(person, slot, QUIET) + bidFor(person, slot, NOISE);
        }

        int freeMoney(int person) {
            return purses[person] - heldForBids[person];
        }

        /** The error code that a bid would return, or 0. */
        int bidError(int person, int slot, int amount) {
            if (!isWithin(amount, 0, BID_LIMIT)) {
                return INVALID_ARGUMENT;
            }
            boolean tooDear = freeMoney(person) + bidAmount(person, slot) < amount;
            return debts[person] > 0 || tooDear ? ILLEGAL_STATE : 0;
        }

        int placeBid(int person, int slot, int side, int amount) {
            heldForBids[person] += amount - bidAmount(person, slot);
            boolean isNoise = side == NOISE && amount > 0;
            bids[person * SLOTS + slot] = isNoise ? NOISE_MARK + amount : amount;
            return freeMoney(person);
        }

        int bidsBy(int person) {
            int found = 0;
            for (int slot = 0; slot < SLOTS; slot++) {
                found += markedBid(person, slot) == 0 ? 0 : 1;
            }
            return found;
        }

        int bidsFor(int slot) {
            int found = 0;
            for (int person = 0; person < people; person++) {
                found += markedBid(person, slot) == 0 ? 0 : 1;
            }
            return found;
        }

        int sumOfBids(int slot, int side) {
            int sum = 0;
            for (int person = 0; person < people; person++) {
                sum += bidFor(person, slot, side);
            }
            return sum;
        }

        // -- money

        /** Brings money to a person, whose debt takes of it first. */
        void receive(int person, int money) {
            int taken = Math.min(debts[person], money);
            debts[person] -= taken;
            funds[breachStreets[person]] += taken;
            purses[person] += money - taken;
        }

        boolean canBePaid(int person, int amount) {
            if (amount < 0 && (debts[person] > 0 || -amount > freeMoney(person))) {
                return false;
            }
            int taken = amount > 0 ? Math.min(debts[person], amount) : 0;
            return purses[person] + amount - taken <= PURSE_LIMIT;
        }

        int allMoney() {
            int sum = 0;
            for (int person = 0; person < people; person++) {
                sum += purses[person];
            }
            for (int street = 0; street < STREETS; street++) {
                sum += funds[street];
            }
            return sum;
        }

        int allDebts() {
            int sum = 0;
            for (int person = 0; person < people; person++) {
                sum += debts[person];
            }
            return sum;
        }

        int allBids() {
            int found = 0;
            for (int person = 0; person < people; person++) {
                found += bidsBy(person);
            }
            return found;
        }

        // -- settling

        int strength(int slot, int side) {
            return sumOfBids(slot, side) + (side == QUIET ? carried[slot] : 0);
        }

        /** The side to which a slot would belong if the day was settled now. */
        int ownerThen(int slot) {
            if (bidsFor(slot) == 0) {
                return owners[slot];
            }
            int quietStrength = strength(slot, QUIET);
            int noiseStrength = strength(slot, NOISE);
            if (quietStrength == noiseStrength) {
                return tieSides[slot];
            }
            return quietStrength > noiseStrength ? QUIET : NOISE;
        }

        int missingFor(int slot, int side) {
            if (ownerThen(slot) == side) {
                return 0;
            }
            int behind = strength(slot, otherSide(side)) - strength(slot, side);
            int enough = tieSides[slot] == side ? behind : behind + 1;
            // A slot without bids changes its side by a bid alone, however strong the side is already.
            return Math.max(1, enough);
        }

        void settleDay() {
            for (int slot = 0; slot < SLOTS; slot++) {
                if (bidsFor(slot) == 0) {
                    carried[slot] /= 2;
                    lastPaid[slot] = 0;
                } else {
                    settleBids(slot);
                }
            }
            Arrays.fill(bids, 0);
            Arrays.fill(heldForBids, 0);
            day++;
        }

        private void settleBids(int slot) {
            int side = ownerThen(slot);
            int carriedThen = side == NOISE ? strength(slot, QUIET) / 2 : 0;
            int paid = collectFrom(slot, side);
            int shared = shareOut(slot, otherSide(side), paid);
            funds[slot / HOURS] += paid - shared;
            owners[slot] = side;
            carried[slot] = carriedThen;
            tieSides[slot] = otherSide(side);
            quietWinners[slot] = side == QUIET ? biddersForQuiet(slot) : 0;
            lastPaid[slot] = paid;
        }

        /** Lets those who bid for the side pay, and returns what they pay together. */
        private int collectFrom(int slot, int side) {
            int paid = 0;
            for (int person = 0; person < people; person++) {
                int amount = bidFor(person, slot, side);
                if (amount > 0) {
                    purses[person] -= amount;
                    bidsWon[person]++;
                    paidForWon[person] += amount;
                    paid += amount;
                }
            }
            return paid;
        }

        /** Shares money among those who bid for the side, and returns how much of it they get together. */
        private int shareOut(int slot, int side, int money) {
            int sum = sumOfBids(slot, side);
            if (sum <= 0) {
                return 0;
            }
            int shared = 0;
            for (int person = 0; person < people; person++) {
                int share = money * bidFor(person, slot, side) / sum;
                receive(person, share);
                sharedOut[person] += share;
                shared += share;
            }
            return shared;
        }

        private int biddersForQuiet(int slot) {
            int bidders = 0;
            for (int person = 0; person < people; person++) {
                if (bidFor(person, slot, QUIET) > 0) {
                    bidders |= 1 << person;
                }
            }
            return bidders;
        }

        // -- breaches

        /** Notes a breach, and returns what is paid of the fine. */
        int noteBreach(int person, int slot) {
            int street = slot / HOURS;
            breaches++;
            breachesBy[person]++;
            breachStreets[person] = street;
            int paid = Math.min(fine, freeMoney(person));
            purses[person] -= paid;
            debts[person] += fine - paid;
            // What a debtor gets may come to this very fund, so it is shared before the fund is read.
            int shared = shareFine(slot, paid);
            funds[street] += paid - shared;
            return paid;
        }

        /** Parts money among those who won the slot for quiet, and returns how much of it they get together. */
        private int shareFine(int slot, int money) {
            int winners = Integer.bitCount(quietWinners[slot]);
            if (winners <= 0) {
                return 0;
            }
            int part = money / winners;
            for (int person = 0; person < people; person++) {
                if ((quietWinners[slot] >> person & 1) == 1) {
                    receive(person, part);
                }
            }
            return part * winners;
        }

        // -- quiet of streets

        int noisySlots() {
            int found = 0;
            for (int street = 0; street < STREETS; street++) {
                found += HOURS - quietHours(street);
            }
            return found;
        }

        int quietHours(int street) {
            int found = 0;
            for (int hour = 0; hour < HOURS; hour++) {
                found += owners[slotAt(street, hour)] == QUIET ? 1 : 0;
            }
            return found;
        }

        int longestQuiet(int street) {
            int longest = 0;
            for (int hour = 0; hour < HOURS; hour++) {
                longest = Math.max(longest, quietFrom(street, hour));
            }
            return longest;
        }

        int longestQuietStart(int street) {
            int start = NONE;
            int longest = 0;
            for (int hour = 0; hour < HOURS; hour++) {
                int run = quietFrom(street, hour);
                if (run > longest) {
                    longest = run;
                    start = hour;
                }
            }
            return start;
        }

        /** How many hours one behind the other belong to quiet from this one on. */
        private int quietFrom(int street, int hour) {
            int end = hour;
            while (end < HOURS && owners[slotAt(street, end)] == QUIET) {
                end++;
            }
            return end - hour;
        }
    }

    /** The states before the latest actions, in rows that are used again and again. */
    private static final class History {
        final State[] rows = new State[HISTORY_LIMIT];
        int oldest;
        int size;

        History() {
            for (int row = 0; row < HISTORY_LIMIT; row++) {
                rows[row] = new State();
            }
        }

        void record(State before) {
            // When all rows are taken, this is the row of the oldest state.
            rows[(oldest + size) % HISTORY_LIMIT].copyFrom(before);
            if (size < HISTORY_LIMIT) {
                size++;
            } else {
                oldest = (oldest + 1) % HISTORY_LIMIT;
            }
        }

        void restoreLatest(State into) {
            if (size > 0) {
                size--;
                into.copyFrom(rows[(oldest + size) % HISTORY_LIMIT]);
            }
        }
    }

    /** Bids of a plan that differ in nothing but their hour. */
    private static final class Part {
        int place;
        int depth;
        int side;
        int street;
        int firstHour;
        int lastHour;
        int amount;
    }

    /** The text, and the reading of it. Once the reading has failed, what would take signs takes none. */
    private static final class Plan {
        private static final int NOWHERE = -1;
        private static final int END = 0;

        final int[] text = new int[TEXT_LIMIT];
        int length;
        final Part[] parts = new Part[PARTS_LIMIT];
        int partCount;
        int failedAt = NOWHERE;
        int depth;
        private int position;
        // By what the amounts are multiplied that stand in this many groups.
        private final int[] factors = new int[DEPTH_LIMIT + 1];

        Plan() {
            for (int i = 0; i < PARTS_LIMIT; i++) {
                parts[i] = new Part();
            }
            factors[0] = 1;
        }

        /** Reads the whole text, and returns whether it is a plan. */
        boolean readText() {
            position = 0;
            depth = 0;
            partCount = 0;
            failedAt = NOWHERE;
            for (int i = 0; i < TEXT_LIMIT && position < length && !hasFailed(); i++) {
                readPiece();
            }
            if (depth > 0) {
                failAt(position);
            }
            return !hasFailed();
        }

        private void readPiece() {
            if (sign() == ')') {
                closeGroup();
            } else if (sign() == '(') {
                openGroup(1);
            } else if (isDigit(sign())) {
                int factor = takeNumber(LEAST_FACTOR, GREATEST_FACTOR);
                take('*');
                openGroup(factor);
            } else {
                readBids();
            }
        }

        private void openGroup(int factor) {
            if (depth >= DEPTH_LIMIT) {
                failAt(position);
            }
            take('(');
            if (!hasFailed()) {
                factors[depth + 1] = factors[depth] * factor;
                depth++;
            }
        }

        private void closeGroup() {
            if (depth > 0) {
                take(')');
                depth--;
            } else {
                failAt(position);
            }
        }

        private void readBids() {
            int place = position;
            boolean isQuiet = takeIf('q');
            if (!isQuiet) {
                take('n');
            }
            int street = takeStreet();
            take(':');
            int firstHour = takeNumber(0, HOURS - 1);
            int lastHour = takeIf('-') ? takeNumber(firstHour, HOURS - 1) : firstHour;
            take('=');
            int amount = takeNumber(1, BID_LIMIT);
            take(';');
            if (!hasFailed() && partCount < PARTS_LIMIT) {
                Part part = parts[partCount];
                part.place = place;
                part.depth = depth;
                part.side = isQuiet ? QUIET : NOISE;
                part.street = street;
                part.firstHour = firstHour;
                part.lastHour = lastHour;
                part.amount = amount * factors[depth];
                partCount++;
            }
        }

        private int takeStreet() {
            int street = sign() - '0';
            if (!isStreet(street)) {
                failAt(position);
            }
            skip();
            return street;
        }

        private int takeNumber(int least, int most) {
            int start = position;
            int number = 0;
            boolean mayGoOn = true;
            for (int digits = 0; digits < NUMBER_DIGITS && mayGoOn && isDigit(sign()); digits++) {
                number = number * 10 + sign() - '0';
                skip();
                mayGoOn = number > 0;
            }
            boolean isMissing = position == start;
            boolean goesOn = isDigit(sign());
            if (isMissing || goesOn) {
                failAt(position);
            }
            if (!isWithin(number, least, most)) {
                failAt(start);
            }
            return number;
        }

        private void take(char wanted) {
            if (!takeIf(wanted)) {
                failAt(position);
            }
        }

        private boolean takeIf(char wanted) {
            boolean stands = !hasFailed() && sign() == wanted;
            if (stands) {
                position++;
            }
            return stands;
        }

        private void skip() {
            if (!hasFailed()) {
                position++;
            }
        }

        private int sign() {
            return position < length ? text[position] : END;
        }

        private static boolean isDigit(int sign) {
            return isWithin(sign, '0', '9');
        }

        private void failAt(int place) {
            // What comes behind the first failure is only its echo.
            if (!hasFailed()) {
                failedAt = place;
            }
        }

        private boolean hasFailed() {
            return failedAt != NOWHERE;
        }
    }
}
