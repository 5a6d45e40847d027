import java.util.Random;

/** All promises: random runs of calls, each answer held against that of the model. */
final class ModelTest {
    private static final int RUNS = 400;
    /** So many calls that the last act, which may be a whole plan, does not go beyond what is promised. */
    private static final int ACTS = Auction.PROMISED_CALLS - 120;
    private static final int[] ODD = {-1, 2, 4, 12, 24, 255, 256, 999, 1000, 1001, 100000, 100001, -100000, -100001,
        Integer.MAX_VALUE, Integer.MIN_VALUE, Integer.MIN_VALUE + 1};
    private static final String[] SIGNS = {"q", "n", "(", ")", "*", ":", "-", "=", ";", "0", "1", "2", "9", "x"};

    private final Random random;
    private final Model model = new Model();
    private final int streets;
    private final int hours;
    private final int greatestBid;
    private final int greatestPurse;
    private final int oddness;
    private Auction real;
    private int acted;
    private boolean differs;

    private ModelTest(Checks checks, int seed) {
        random = new Random(seed);
        real = Auction.of(checks);
        streets = random.nextInt(4) + 1;
        hours = random.nextBoolean() ? 24 : random.nextInt(4) + 1;
        greatestBid = random.nextBoolean() ? 999 : random.nextInt(30) + 1;
        greatestPurse = random.nextInt(3) == 0 ? 100000 : random.nextInt(500);
        oddness = random.nextBoolean() ? 400 : 40;
    }

    public static void main(String[] arguments) {
        Checks checks = new Checks("ModelTest");
        int runs = arguments.length > 0 ? Integer.parseInt(arguments[0]) : RUNS;
        for (int seed = 0; seed < runs; seed++) {
            ModelTest run = new ModelTest(checks, seed);
            run.go();
            if (run.differs) {
                System.out.println("in the run of seed " + seed);
            }
        }
        checks.end();
    }

    private void go() {
        int people = random.nextInt(13);
        for (int person = 0; person < people; person++) {
            join();
        }
        while (real.calls() < ACTS && !differs) {
            act();
            look();
        }
        lookAtAll();
    }

    private int odd(int ordinary) {
        return random.nextInt(oddness) == 0 ? ODD[random.nextInt(ODD.length)] : ordinary;
    }

    private int person() {
        return odd(random.nextInt(Math.max(1, model.count(1))));
    }

    private int street() {
        return odd(random.nextInt(streets));
    }

    private int hour() {
        return odd(random.nextInt(hours));
    }

    private int side() {
        return odd(random.nextInt(2));
    }

    private int amount() {
        return odd(random.nextInt(10) == 0 ? 0 : random.nextInt(greatestBid) + 1);
    }

    /** Holds an answer against the model's. What comes behind a first difference is only its echo. */
    private void same(int got, int due) {
        if (!differs) {
            real.due(got, due);
            differs = got != due;
        }
    }

    private void join() {
        int purse = odd(random.nextInt(greatestPurse + 1));
        same(real.join(purse), model.join(purse));
    }

    private void act() {
        int person = person();
        int street = street();
        int hour = hour();
        int choice = random.nextInt(100);
        if (choice < 50) {
            bid(person, street, hour);
        } else if (choice < 58) {
            pay(person);
        } else if (choice < 70) {
            same(real.settle(), model.settle());
        } else if (choice < 80) {
            same(real.breach(person, street, hour), model.breach(person, street, hour));
        } else if (choice < 84) {
            same(real.undo(), model.undo());
        } else if (choice < 87) {
            int fine = odd(random.nextInt(random.nextBoolean() ? 1001 : 60));
            same(real.setFine(fine), model.setFine(fine));
        } else if (choice < 88) {
            join();
        } else if (choice < 95) {
            plan(person);
        } else {
            same(real.run(person), model.run(person));
        }
    }

    private void bid(int person, int street, int hour) {
        int side = side();
        int amount = amount();
        same(real.bid(person, street, hour, side, amount), model.bid(person, street, hour, side, amount));
    }

    private void pay(int person) {
        int debt = Math.max(0, model.person(person, 2));
        int free = Math.max(0, model.person(person, 1));
        int[] amounts = {random.nextInt(greatestPurse + 1), debt, debt + 1, -free, -free - 1, 0, -random.nextInt(10)};
        int amount = odd(amounts[random.nextInt(amounts.length)]);
        same(real.pay(person, amount), model.pay(person, amount));
    }

    private void plan(int person) {
        if (random.nextInt(8) > 0) {
            same(real.clearText(), model.clearText());
        }
        StringBuilder plan = new StringBuilder();
        writePlan(plan, 0);
        if (plan.length() > 0 && random.nextInt(3) == 0) {
            spoil(plan);
        }
        for (int i = 0; i < plan.length() && i < 60; i++) {
            same(real.append(plan.charAt(i)), model.append(plan.charAt(i)));
        }
        int odd = odd('q');
        if (odd != 'q') {
            same(real.append(odd), model.append(odd));
        }
        same(real.run(person), model.run(person));
        failure();
    }

    private void failure() {
        for (int what = 0; what <= 4; what++) {
            same(real.failure(what), model.failure(what));
        }
    }

    private void writePlan(StringBuilder plan, int depth) {
        int parts = random.nextInt(3) + (depth == 0 ? 1 : 0);
        for (int part = 0; part < parts; part++) {
            if (depth < 5 && random.nextInt(3) == 0) {
                if (random.nextBoolean()) {
                    plan.append(random.nextInt(8) + 2).append('*');
                }
                plan.append('(');
                writePlan(plan, depth + 1);
                plan.append(')');
            } else {
                writeBids(plan);
            }
        }
    }

    private void writeBids(StringBuilder plan) {
        plan.append(random.nextBoolean() ? 'q' : 'n').append(random.nextInt(streets)).append(':');
        int first = random.nextInt(hours);
        plan.append(first);
        if (random.nextBoolean()) {
            plan.append('-').append(first + random.nextInt(hours - first));
        }
        plan.append('=').append(random.nextInt(greatestBid) / (random.nextBoolean() ? 20 : 1) + 1).append(';');
    }

    private void spoil(StringBuilder plan) {
        int place = random.nextInt(plan.length());
        String sign = random.nextInt(20) == 0 ? String.valueOf((char) (random.nextInt(255) + 1))
            : SIGNS[random.nextInt(SIGNS.length)];
        switch (random.nextInt(4)) {
            case 0: plan.setLength(place); break;
            case 1: plan.deleteCharAt(place); break;
            case 2: plan.insert(place, sign); break;
            default: plan.replace(place, place + 1, sign); break;
        }
    }

    private void look() {
        int person = person();
        int street = street();
        int hour = hour();
        int side = side();
        int what = odd(random.nextInt(10));
        switch (random.nextInt(10)) {
            case 0: same(real.count(what), model.count(what)); break;
            case 1: same(real.person(person, what), model.person(person, what)); break;
            case 2: same(real.slot(street, hour, what), model.slot(street, hour, what)); break;
            case 3: same(real.bidOf(person, street, hour), model.bidOf(person, street, hour)); break;
            case 4: same(real.fund(street), model.fund(street)); break;
            case 5: same(real.winner(street, hour), model.winner(street, hour)); break;
            case 6: same(real.needed(street, hour, side), model.needed(street, hour, side)); break;
            case 7: same(real.quiet(street, what % 4), model.quiet(street, what % 4)); break;
            case 8: same(real.purseThen(person), model.purseThen(person)); break;
            default: same(real.failure(what), model.failure(what)); break;
        }
    }

    /** Looks at all there is, and on other objects too, as one object has not so many calls. */
    private void lookAtAll() {
        acted = real.calls();
        for (int what = 0; what <= 9; what++) {
            same(there().count(what), model.count(what));
        }
        for (int person = 0; person < model.count(1); person++) {
            for (int what = 0; what <= 7; what++) {
                same(there().person(person, what), model.person(person, what));
            }
            same(there().purseThen(person), model.purseThen(person));
        }
        for (int street = 0; street < 4; street++) {
            same(there().fund(street), model.fund(street));
            for (int what = 0; what <= 2; what++) {
                same(there().quiet(street, what), model.quiet(street, what));
            }
            for (int hour = 0; hour < 24; hour++) {
                lookAtSlot(street, hour);
            }
        }
    }

    /** An object that has calls left, with all acts behind it. */
    private Auction there() {
        if (real.calls() == Auction.PROMISED_CALLS) {
            real = real.again(acted);
        }
        return real;
    }

    private void lookAtSlot(int street, int hour) {
        for (int what = 0; what <= 5; what++) {
            same(there().slot(street, hour, what), model.slot(street, hour, what));
        }
        same(there().winner(street, hour), model.winner(street, hour));
        for (int side = 0; side <= 1; side++) {
            same(there().needed(street, hour, side), model.needed(street, hour, side));
        }
        for (int person = 0; person < model.count(1); person++) {
            same(there().bidOf(person, street, hour), model.bidOf(person, street, hour));
        }
    }
}
