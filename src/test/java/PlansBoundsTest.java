import java.util.Arrays;

/** The sentences on plans, and those of the promises 9 to 12. */
final class PlansBoundsTest extends MarkedTests {
    private static final String DIGITS = "0123456789";
    private static final String FIRST_OF_A_PART = "qn(23456789";
    /** 98 characters. */
    private static final String FOURTEEN_BIDS = "q0:1=1;q0:1=1;q0:1=1;q0:1=1;q0:1=1;q0:1=1;q0:1=1;"
        + "q0:1=1;q0:1=1;q0:1=1;q0:1=1;q0:1=1;q0:1=1;q0:2=1;";

    public static void main(String[] arguments) {
        new PlansBoundsTest().runAll();
    }

    // ---- helpers

    /** Runs a text for a person with much money, and returns the auction behind it. */
    private Auction makes(int bids, String text) {
        Auction x = auction(100000);
        x.due(x.runText(0, text), bids);
        x.due(x.failure(0), NONE);
        return x;
    }

    private void failsAt(int place, int depth, String text) {
        Auction x = auction(100000);
        x.due(x.runText(0, text), -1000 - place);
        x.failureIs(1, place, depth, 0, NONE);
        x.due(x.count(2), 0);
        x.due(x.count(8), 1);
    }

    /** A run of person 0 fails at a bid, and nothing of it stays but the failure. */
    private void bidFails(Auction.Story story, String text, int place, int depth, int made, int code) {
        Auction.Story written = y -> {
            story.on(y);
            y.write(text);
        };
        Auction x = auctionAfter(written);
        x.due(x.run(0), -1000 - place);
        x.failureIs(2, place, depth, made, code);
        leavesNoTraceButFailure(written, y -> y.run(0));
    }

    private static Auction.Story purse(int purse) {
        return x -> x.join(purse);
    }

    /** What is due of a run for each character that may come behind a beginning. */
    private static final class Next {
        final String beginning;
        final int[] answers = new int[256];

        Next(String beginning) {
            this.beginning = beginning;
            Arrays.fill(answers, -1000 - beginning.length());
        }

        Next answer(int answer, String characters) {
            for (char character : characters.toCharArray()) {
                answers[character] = answer;
            }
            return this;
        }

        /** The characters are allowed, and something is missing behind them. */
        Next goesOn(String characters) {
            return answer(-1000 - beginning.length() - 1, characters);
        }

        Next failsAt(int place, String characters) {
            return answer(-1000 - place, characters);
        }

        /** All characters fail at a place, but those of which something else is said behind this. */
        Next failsAt(int place) {
            Arrays.fill(answers, -1000 - place);
            return this;
        }
    }

    private void holds(Next next) {
        for (int character = 1; character <= 255; character++) {
            Auction x = auction(100000);
            x.due(x.runText(0, next.beginning + (char) character), next.answers[character]);
        }
    }

    // ---- the text and its grammar

    @Says(in = "Plans", words = "A text of at most 100 characters can be run as a plan of bids of a person:")
    void textsOfUpTo100Characters() {
        makes(0, "");
        makes(0, "()");
        makes(0, "()".repeat(50));
        makes(14, FOURTEEN_BIDS);
        Auction x = makes(14, FOURTEEN_BIDS + "()");
        x.due(x.count(9), 100);
        x.due(x.bidOf(0, 0, 1), 1);
        x.due(x.bidOf(0, 0, 2), 1);
        failsAt(100, 2, FOURTEEN_BIDS + "((");
        failsAt(99, 0, FOURTEEN_BIDS + "2(");
        failsAt(100, 0, FOURTEEN_BIDS + "q0");
        Auction other = auction(5, 5);
        other.due(other.runText(1, "n3:4=5;"), 1);
        other.due(other.bidOf(1, 3, 4), 1005);
        other.due(other.bidOf(0, 3, 4), NONE);
    }

    @Says(in = "Plans", words = {"plan = { part }",
        "part = [ number \"*\" ] \"(\" plan \")\" | side street \":\" number [ \"-\" number ] \"=\" number \";\""})
    void partsOfAPlan() {
        makes(1, "q0:0=1;");
        makes(2, "q0:0-1=1;");
        makes(2, "q0:0=1;n0:1=1;");
        makes(1, "(q0:0=1;)");
        makes(1, "2*(q0:0=1;)");
        makes(0, "2*()");
        makes(0, "()3*(()())()");
        makes(3, "(q0:0=1;2*(q0:1=1;))q0:2=1;");
        holds(new Next("2*").goesOn("("));
        holds(new Next("q").goesOn("0123"));
        holds(new Next("q0").goesOn(":"));
        holds(new Next("q0:").goesOn(DIGITS));
        holds(new Next("q0:5=1;").goesOn(FIRST_OF_A_PART));
        holds(new Next("()").goesOn(FIRST_OF_A_PART));
    }

    @Says(in = "Plans", words = {"Nothing else may stand in a text."})
    void nothingElseMayStand() {
        holds(new Next("").goesOn(FIRST_OF_A_PART));
        holds(new Next("(").goesOn(FIRST_OF_A_PART).answer(0, ")"));
        holds(new Next("2*(").goesOn(FIRST_OF_A_PART).answer(0, ")"));
        holds(new Next("(q0:5=1;").goesOn(FIRST_OF_A_PART).answer(1, ")"));
        holds(new Next("q0:0=999").answer(1, ";"));
        holds(new Next("n3:23").failsAt(3, DIGITS).goesOn("-="));
        failsAt(1, 0, "q q0:0=1;");
        failsAt(0, 0, "Q0:0=1;");
        failsAt(0, 0, "N0:0=1;");
        failsAt(7, 0, "q0:0=1;)");
        failsAt(7, 0, "q0:0=1;;");
        failsAt(4, 0, "q0:1,2=1;");
        failsAt(6, 0, "q0:0=1");
    }

    @Says(in = "Plans", words = "Here a side is \"q\" or \"n\", a street is one digit 0 to 3,")
    void sidesAndStreets() {
        for (int street = 0; street <= 3; street++) {
            Auction x = makes(2, "q" + street + ":4=1;n" + street + ":5=2;");
            x.due(x.bidOf(0, street, 4), 1);
            x.due(x.bidOf(0, street, 5), 1002);
            failsAt(2, 0, "q" + street + "0:4=1;");
        }
        failsAt(1, 0, "q4:4=1;");
        failsAt(1, 0, "n9:4=1;");
        failsAt(1, 0, "q/:4=1;");
        failsAt(1, 0, "q:4=1;");
        failsAt(2, 0, "q01=1;");
    }

    @Says(in = "Plans", words = "the numbers behind \":\" and \"-\" are the first and the last hour (0 to 23; the last one not "
        + "less than the first one; without \"-\" both are the same),")
    void hours() {
        makes(1, "q0:0=1;");
        Auction last = makes(1, "q0:23=1;");
        last.due(last.bidOf(0, 0, 23), 1);
        last.due(last.bidOf(0, 0, 22), NONE);
        last.due(last.bidOf(0, 1, 0), NONE);
        makes(24, "q0:0-23=1;");
        makes(1, "q0:0-0=1;");
        makes(1, "q0:23-23=1;");
        makes(2, "q0:9-10=1;");
        makes(1, "q0:10-10=1;");
        failsAt(3, 0, "q0:24=1;");
        failsAt(3, 0, "q0:99=1;");
        failsAt(3, 0, "q0:999=1;");
        failsAt(3, 0, "q0:24-25=1;");
        failsAt(5, 0, "q0:0-24=1;");
        failsAt(5, 0, "q0:1-0=1;");
        failsAt(6, 0, "q0:10-9=1;");
        failsAt(6, 0, "q0:23-22=1;");
        failsAt(6, 0, "q0:23-24=1;");
        holds(new Next("q0:2").goesOn("-=0123").failsAt(3, "456789"));
        holds(new Next("q0:3").goesOn("-=").failsAt(3, DIGITS));
        holds(new Next("q0:5-").failsAt(5, "01234").goesOn("56789"));
        holds(new Next("q0:5-1").failsAt(5).goesOn(DIGITS));
        holds(new Next("q0:5-2").failsAt(5).goesOn("0123"));
        holds(new Next("q0:5-5").goesOn("=").failsAt(5, DIGITS));
    }

    @Says(in = "Plans", words = "and the number behind \"=\" is the amount of each of these bids (1 to 999).")
    void amounts() {
        Auction least = makes(2, "q0:7-8=1;");
        least.due(least.bidOf(0, 0, 7), 1);
        least.due(least.bidOf(0, 0, 8), 1);
        least.due(least.bidOf(0, 0, 9), NONE);
        least.due(least.bidOf(0, 0, 6), NONE);
        Auction most = makes(2, "n0:7-8=999;");
        most.due(most.bidOf(0, 0, 7), 1999);
        most.due(most.bidOf(0, 0, 8), 1999);
        failsAt(5, 0, "q0:1=0;");
        failsAt(8, 0, "q0:1=1000;");
        failsAt(5, 0, "q0:1=-1;");
        failsAt(5, 0, "q0:1=;");
        holds(new Next("q0:1=").goesOn("123456789"));
        holds(new Next("q0:1=99").goesOn(DIGITS).answer(1, ";"));
    }

    @Says(in = "Plans", words = "A number is 1 to 3 digits, the first of several not 0.")
    @Says(in = "Plans", words = "(also a digit too many, be it one behind a 0,")
    void numbers() {
        makes(1, "q0:0=1;");
        makes(1, "q0:0=12;");
        makes(1, "q0:0=100;");
        failsAt(8, 0, "q0:0=1234;");
        failsAt(8, 0, "q0:0=10000;");
        failsAt(6, 0, "q0:0=01;");
        failsAt(6, 0, "q0:0=00;");
        failsAt(6, 0, "q0:0=001;");
        failsAt(4, 0, "q0:00=1;");
        failsAt(4, 0, "q0:05=1;");
        failsAt(6, 0, "q0:1000=1;");
        failsAt(6, 0, "q0:5-05=1;");
        failsAt(8, 0, "q0:5-1000=1;");
        failsAt(1, 0, "02*()");
        failsAt(1, 0, "00");
        failsAt(3, 0, "2000*()");
        failsAt(3, 0, "1111");
        failsAt(5, 2, "((1111");
        holds(new Next("q0:0").failsAt(4, DIGITS).goesOn("-="));
        holds(new Next("q0:1").goesOn(DIGITS + "-="));
        holds(new Next("q0:1=9").goesOn(DIGITS).answer(1, ";"));
        holds(new Next("q0:1=0").failsAt(5).failsAt(6, DIGITS));
        holds(new Next("q0:240").failsAt(3).failsAt(6, DIGITS));
        holds(new Next("0").failsAt(0).failsAt(1, DIGITS));
        holds(new Next("100").failsAt(0).failsAt(3, DIGITS));
    }

    @Says(in = "Plans", words = "A group in brackets multiplies the amounts in it by the number in front of \"*\" (2 to 9);")
    void groupsMultiply() {
        Auction x = makes(7, "2*(q0:0=5;3*(n0:1=5;)q0:2=5;)q0:3=5;(q0:4=5;9*(q0:5=5;))q0:6=5;");
        int[] bids = {10, 1030, 10, 5, 5, 45, 5};
        for (int hour = 0; hour < bids.length; hour++) {
            x.due(x.bidOf(0, 0, hour), bids[hour]);
        }
        Auction most = makes(2, "9*(9*(9*(q1:0=1;)))9*(q1:1=111;)");
        most.due(most.bidOf(0, 1, 0), 729);
        most.due(most.bidOf(0, 1, 1), 999);
        failsAt(0, 0, "1*()");
        failsAt(0, 0, "0*()");
        failsAt(0, 0, "10*()");
        failsAt(0, 0, "99*()");
        failsAt(1, 0, "2()");
        failsAt(2, 0, "2*2*()");
        failsAt(2, 0, "2*q0:0=1;");
        failsAt(0, 0, "*()");
        holds(new Next("2").goesOn("*").failsAt(0, DIGITS));
        holds(new Next("9").goesOn("*").failsAt(0, DIGITS));
        holds(new Next("1").failsAt(0));
    }

    @Says(in = "Plans", words = "groups are nested at most 4 deep.")
    @Says(in = "Plans", words = "a group nested too deep at its \"(\",")
    void groupsAreNested() {
        makes(1, "((((q0:0=1;))))");
        makes(1, "2*(2*(2*(2*(q0:0=1;))))");
        makes(0, "(((())))(((())))");
        makes(1, "(((()()(q0:0=1;))))");
        failsAt(4, 4, "(((((");
        failsAt(4, 4, "((((()))))");
        failsAt(6, 4, "(((()((");
        failsAt(6, 4, "()(((((");
        failsAt(6, 4, "((((2*(");
        failsAt(11, 4, "((((q0:0=1;(");
        holds(new Next("(((").goesOn(FIRST_OF_A_PART + ")"));
        holds(new Next("((((").goesOn("qn23456789)"));
        holds(new Next("((((2*"));
    }

    // ---- the order of reading and bidding

    @Says(in = "Plans", words = "The text is read wholly before any bid is made;")
    void theTextIsReadFirst() {
        // The bid of 11 would fail at place 0, the character behind it fails first.
        Auction x = auction(10);
        x.due(x.runText(0, "q0:0=11;x"), -1008);
        x.failureIs(1, 8, 0, 0, NONE);
        x.due(x.runText(0, "2*(q0:0=999;"), -1012);
        x.failureIs(1, 12, 1, 0, NONE);
        x.due(x.runText(0, "q0:0=11;"), -1000);
        x.failureIs(2, 0, 0, 0, ILLEGAL);
        x.due(x.runText(0, "q0:0=10;"), 1);
    }

    @Says(in = "Plans", words = "then the bids are made in the order in which they stand, hour by hour, as by bid() with the "
        + "multiplied amount.")
    void bidsAreMadeInTheirOrder() {
        Auction x = auction(100);
        x.due(x.runText(0, "q0:0-3=9;n0:2=8;2*(q0:3=3;)"), 6);
        int[] bids = {9, 9, 1008, 6};
        for (int hour = 0; hour < bids.length; hour++) {
            x.due(x.bidOf(0, 0, hour), bids[hour]);
        }
        x.due(x.person(0, 1), 68);
        // The money of a bid that is made again is free first: 9 and 9 become 1 and 1 before 84 are bid.
        x.due(x.runText(0, "q0:0-1=1;q0:4=84;"), 3);
        x.due(x.person(0, 1), 0);
        x.due(x.runText(0, "q0:5=1;q0:4=83;"), -1000);
        x.due(x.runText(0, "q0:4=83;q0:5=1;"), 2);
        // Hour by hour: with 3 left over, the fourth of 5 hours fails.
        bidFails(purse(7), "q1:3-7=2;", 0, 0, 3, ILLEGAL);
        bidFails(purse(5), "n1:0=1;2*(q1:3-7=2;)", 10, 1, 2, ILLEGAL);
    }

    /** Of 10, a bid of 9 for the first hour gives back what the later hours need; one for the last hour comes too late. */
    @Says(in = "Plans", words = "hour by hour, as by bid()")
    void theHoursOfAPartGoUp() {
        Auction x = auction(10);
        x.bid(0, 2, 4, NOISE, 9);
        x.due(x.runText(0, "q2:4-6=3;"), 3);
        x.due(x.person(0, 1), 1);
        bidFails(y -> {
            y.join(10);
            y.bid(0, 2, 6, NOISE, 9);
        }, "q2:4-6=3;", 0, 0, 0, ILLEGAL);
    }

    // ---- failures

    @Says(in = "Plans", words = {"A failure is of the kind 1 if a character is not allowed where it stands",
        "and a number that is out of its range, or an hour less than the first one, at its first digit, as soon as the number "
        + "ends, also by the end of the text),"})
    void numbersFailAsTheyEnd() {
        failsAt(3, 0, "q0:24");
        failsAt(3, 0, "q0:24x");
        failsAt(3, 0, "q0:24q");
        failsAt(6, 0, "q0:1234");
        failsAt(5, 0, "q0:1-0");
        failsAt(5, 0, "q0:1-0x");
        failsAt(6, 0, "q0:10-9");
        failsAt(6, 0, "q0:10-9:");
        failsAt(5, 0, "q0:1=0");
        failsAt(5, 0, "q0:1=0x");
        failsAt(0, 0, "1");
        failsAt(0, 0, "1x");
        failsAt(0, 0, "10(");
        failsAt(1, 1, "(10");
        failsAt(7, 0, "q0:0=1;1");
        // A number in its range is no failure, but what is missing or wrong behind it.
        failsAt(5, 0, "q0:23");
        failsAt(5, 0, "q0:23x");
        failsAt(1, 0, "9");
        failsAt(1, 0, "9x");
        failsAt(8, 0, "q0:1=999");
        failsAt(8, 0, "q0:1=999x");
    }

    @Says(in = "Plans", words = "and of the kind 2 if a bid returns an error code.")
    void bidsFail() {
        bidFails(purse(999), "n2:2=999;2*(n2:2=500;)", 12, 1, 1, INVALID);
        makes(1, "3*(n2:2=333;)");
        bidFails(purse(100000), "4*(n2:2=250;)", 3, 1, 0, INVALID);
        bidFails(purse(100000), "9*(9*(9*(9*(n2:2=999;))))", 12, 4, 0, INVALID);
        bidFails(purse(9), "n2:2=10;", 0, 0, 0, ILLEGAL);
        bidFails(purse(9), "n2:2=9;n2:3=1;", 7, 0, 1, ILLEGAL);
        Auction.Story debt = x -> {
            x.join(1);
            x.bid(0, 0, 0, QUIET, 1);
            x.breach(0, 1, 1);
        };
        bidFails(debt, "q0:0=1;", 0, 0, 0, ILLEGAL);
        bidFails(debt, "2*(q0:0=500;)", 3, 1, 0, INVALID);
        // Without a bid there is nothing to fail, also for a person with a debt.
        Auction x = auctionAfter(debt);
        x.due(x.runText(0, "2*()"), 0);
    }

    @Says(in = "Plans", words = "Its place is the offset (from 0) of this character, or the length of the text if it ends where "
        + "something is missing, or that of the side of the part whose bid failed.")
    void placesOfFailures() {
        // Each beginning of this text ends where something is missing, but the one that ends with the hours 8-1.
        String whole = "2*(q3:8-19=45;)";
        for (int length = 1; length < whole.length(); length++) {
            int depth = length < 3 ? 0 : 1;
            failsAt(length == 9 ? 8 : length, depth, whole.substring(0, length));
        }
        failsAt(0, 0, "x");
        failsAt(0, 0, ")");
        failsAt(2, 0, "())");
        failsAt(14, 0, "q0:0=1;n0:0=1;x");
        bidFails(purse(0), "q0:0=1;", 0, 0, 0, ILLEGAL);
        bidFails(purse(3), "9*()(q0:0-2=1;n1:0-3=1;)", 14, 1, 3, ILLEGAL);
    }

    @Says(in = "Plans", words = "Its depth is the number of groups in which this place stands.")
    void depthsOfFailures() {
        failsAt(0, 0, "x");
        failsAt(2, 0, "2*");
        failsAt(0, 0, "1*(");
        failsAt(1, 1, "(");
        failsAt(1, 1, "(x");
        failsAt(1, 1, "(1*(");
        failsAt(3, 1, "(2*");
        failsAt(4, 2, "(2*(");
        failsAt(5, 3, "2*(((x");
        failsAt(4, 4, "((((x");
        failsAt(7, 3, "(((()()");
        failsAt(8, 2, "(((()())");
        failsAt(8, 0, "(((())))x");
        failsAt(3, 1, "(()x");
        failsAt(2, 0, "())");
        failsAt(8, 1, "(q0:0=1;");
        failsAt(9, 0, "(q0:0=1;))");
        bidFails(purse(0), "()q0:0=1;", 2, 0, 0, ILLEGAL);
        bidFails(purse(0), "(()(())q0:0=1;)", 7, 1, 0, ILLEGAL);
        bidFails(purse(0), "(((2*(q0:0=1;))))", 6, 4, 0, ILLEGAL);
    }

    @Says(in = "Plans", words = "If a plan fails, nothing that it has done stays (but the failure).")
    void nothingOfAPlanThatFailsStays() {
        bidFails(MarkedTests::busyDay, "q1:0-5=1;n3:23=7;q2:0=999;", 17, 0, 7, ILLEGAL);
        bidFails(MarkedTests::busyDay, "n3:23=900;q0:0=100;", 10, 0, 1, ILLEGAL);
        Auction.Story written = x -> {
            busyDay(x);
            x.write("q1:0-5=1;n3:23=7;!");
        };
        leavesNoTraceButFailure(written, x -> x.run(0));
        Auction.Story ofTheLast = x -> {
            x.joinAll(1, 2, 3, 4, 5, 6, 7, 8, 9, 10, 11, 12);
            x.bid(11, 3, 23, QUIET, 2);
            x.write("n3:22-23=6;q0:0=1;");
        };
        Auction last = auctionAfter(ofTheLast);
        last.due(last.run(11), -1011);
        leavesNoTraceButFailure(ofTheLast, x -> x.run(11));
        isNoAction(NOTHING, x -> x.run(0));
        isNoAction(x -> x.joinAll(1), x -> x.runText(0, "q0:0=2;"));
        isNoAction(x -> x.joinAll(1), x -> x.runText(0, "q"));
    }

    // ---- Promise 9

    private static void text(Auction x, int length) {
        for (int i = 0; i < length; i++) {
            x.append('q');
        }
    }

    @Says(in = "Promise 9", words = {"Appends a character to the text.", "Returns the new length of the text;",
        "CAPACITY_EXCEEDED if the text already has 100 characters."})
    void appendUpTo100() {
        Auction x = auction(5);
        for (int length = 1; length <= 100; length++) {
            x.due(x.append('q'), length);
            x.due(x.count(9), length);
        }
        x.due(x.append('q'), FULL);
        refused(FULL, y -> text(y, 100), y -> y.append('q'), y -> y.append(1), y -> y.append(255));
        refused(INVALID, y -> text(y, 100), y -> y.append(0), y -> y.append(256));
        // A plan of 100 characters that is complete stays complete.
        Auction full = auction(5);
        full.write(FOURTEEN_BIDS + "()");
        full.due(full.append('x'), FULL);
        full.due(full.run(0), 14);
        full.clearText();
        full.due(full.append('x'), 1);
        isNoAction(NOTHING, y -> y.append('q'));
    }

    @Says(in = "Promise 9", words = {"character: character code, 1 to 255", "INVALID_ARGUMENT if character is out of range;"})
    void charactersThatCanBeAppended() {
        Auction x = auction();
        x.due(x.append(1), 1);
        x.due(x.append(255), 2);
        invalidOutside(1, 255, NOTHING, (y, character) -> y.append(character));
        invalidOutside(1, 255, MarkedTests::busyDay, (y, character) -> y.append(character));
        // 369 is 256 more than "q".
        refused(INVALID, MarkedTests::busyDay, y -> y.append(256 + 'q'), y -> y.append('q' - 256));
    }

    // ---- Promise 10

    @Says(in = "Promise 10", words = {"Makes the text empty.", "Returns the previous length of the text."})
    void clearTextTellsTheLength() {
        int[] lengths = {0, 1, 99, 100};
        for (int length : lengths) {
            Auction x = auction(5);
            text(x, length);
            x.due(x.clearText(), length);
            x.due(x.count(9), 0);
            x.due(x.clearText(), 0);
            x.due(x.run(0), 0);
            x.due(x.append('q'), 1);
            x.due(x.run(0), -1001);
        }
        isNoAction(MarkedTests::busyDay, x -> x.clearText());
        leavesNoTrace(NOTHING, x -> x.clearText());
    }

    // ---- Promise 11

    @Says(in = "Promise 11", words = {"Runs the text as a plan of a person; it stays as it is.",
        "Returns the number of bids that were made;"})
    void runMakesBids() {
        Auction x = auction(1000, 1000);
        x.write("q0:0-1=1;n3:23=2;");
        x.due(x.run(0), 3);
        x.due(x.count(9), 17);
        x.due(x.run(1), 3);
        x.due(x.run(1), 3);
        x.due(x.count(2), 6);
        x.due(x.clearText(), 17);
        x.due(x.run(1), 0);
        Auction most = auction(100000);
        // Bids that are made again count again.
        most.due(most.runText(0, "q0:0-9=1;".repeat(11)), 110);
        most.due(most.count(2), 10);
        most.due(most.runText(0, "n0:0-23=1;".repeat(10)), 240);
        most.due(most.count(2), 24);
    }

    @Says(in = "Promise 11", words = "If it does not fail, this is one action, also without bids.")
    void runIsOneAction() {
        isAnAction(x -> x.joinAll(1000), x -> x.run(0));
        Auction.Story written = x -> {
            x.joinAll(1000);
            x.write("q0:0-23=1;n1:0-23=2;");
        };
        isAnAction(written, x -> x.run(0));
        Auction.Story busy = x -> {
            busyDay(x);
            x.write("q3:23=5;q0:0-23=1;n1:0-23=2;");
        };
        isAnAction(busy, x -> x.run(0));
        Auction.Story emptyAndBusy = x -> {
            busyDay(x);
            x.write("()");
        };
        isAnAction(emptyAndBusy, x -> x.run(2));
    }

    @Says(in = "Promise 11", words = {"person: a person", "INVALID_ARGUMENT if there is no such person;"})
    void peopleWhoCanRun() {
        Auction.Story written = x -> {
            busyDay(x);
            x.write("q0:1=1;");
        };
        Auction x = auctionAfter(written);
        x.due(x.run(0), 1);
        x.due(x.run(1), 1);
        // Person 2 has a debt.
        x.due(x.run(2), -1000);
        invalidOutside(0, 2, written, (y, person) -> y.run(person));
        invalidOutside(0, 2, MarkedTests::busyDay, (y, person) -> y.run(person));
        refused(INVALID, NOTHING, y -> y.run(0));
    }

    @Says(in = "Promise 11", words = "-1000 minus the place of the failure if it fails.")
    void runTellsThePlace() {
        failsAt(0, 0, "!");
        failsAt(1, 0, "q");
        failsAt(99, 0, FOURTEEN_BIDS + "2!");
        failsAt(100, 1, FOURTEEN_BIDS.substring(7) + "()()()()(");
        bidFails(purse(1), "q0:1=2;", 0, 0, 0, ILLEGAL);
        bidFails(purse(1), "q0:1=1;".repeat(13) + "()q0:2=1;", 93, 0, 13, ILLEGAL);
    }

    // ---- Promise 12

    @Says(in = "Promise 12", words = {"Returns a part of the latest failure of a plan.",
        "what: 0 its kind, 1 its place, 2 its depth, 3 the number of bids that had been made before it, "
        + "4 the error code of the bid (NONE for the kind 1)", "Returns the part;"})
    void partsOfAFailure() {
        Auction x = auction(10);
        x.due(x.runText(0, "(q0:0-3=1;(q1:0=10;))"), -1011);
        x.failureIs(2, 11, 2, 4, ILLEGAL);
        x.due(x.runText(0, "(q"), -1002);
        x.failureIs(1, 2, 1, 0, NONE);
        x.due(x.runText(0, "9*(q0:0=112;)"), -1003);
        x.failureIs(2, 3, 1, 0, INVALID);
        // What does not fail leaves the latest failure as it is.
        x.due(x.runText(0, "q0:0=1;"), 1);
        x.run(1);
        x.undo();
        x.clearText();
        x.settle();
        x.failureIs(2, 3, 1, 0, INVALID);
    }

    @Says(in = "Promise 12", words = {"INVALID_ARGUMENT if what is out of range;", "NONE if there was no failure yet."})
    void noFailureYet() {
        Auction.Story noFailure = x -> {
            x.joinAll(10);
            x.runText(0, "q0:0=1;");
            x.run(1);
        };
        refused(NONE, NOTHING, x -> x.failure(0), x -> x.failure(4));
        refused(NONE, noFailure, x -> x.failure(0), x -> x.failure(1), x -> x.failure(2), x -> x.failure(3), x -> x.failure(4));
        invalidOutside(0, 4, NOTHING, (x, what) -> x.failure(what));
        invalidOutside(0, 4, MarkedTests::busyDay, (x, what) -> x.failure(what));
    }
}
