/** Promises 9 to 12: append, clearText, run and failure. */
final class PlansTest {
    private static final Checks CHECKS = new Checks("PlansTest");

    public static void main(String[] arguments) {
        promise9Append();
        promise10ClearText();
        promise11Run();
        promise11RunMultiplies();
        promise11RunInOrder();
        promise11RunWithoutBids();
        promise11RunIsOneAction();
        promise11ReadingFails();
        promise11NumbersFail();
        promise11DepthOfFailures();
        promise11BidsFail();
        promise11WholeTextIsReadFirst();
        promise11EveryCharacter();
        promise12Failure();
        CHECKS.end();
    }

    private static void promise9Append() {
        Auction x = Auction.of(CHECKS);
        CHECKS.due("append(0)", x.append(0), Checks.INVALID);
        CHECKS.due("append(256)", x.append(256), Checks.INVALID);
        CHECKS.due("append(1)", x.append(1), 1);
        CHECKS.due("append(255)", x.append(255), 2);
        for (int length = 3; length <= 100; length++) {
            CHECKS.due("append", x.append('q'), length);
        }
        CHECKS.due("a character too many", x.append('q'), Checks.FULL);
        CHECKS.due("one out of range too many", x.append(256), Checks.INVALID);
        for (int far : Checks.FAR_OFF) {
            CHECKS.due("append(" + far + ")", x.append(far), Checks.INVALID);
        }
        CHECKS.due("length", x.count(9), 100);
        CHECKS.due("states", x.count(8), 0);
    }

    private static void promise10ClearText() {
        Auction x = Auction.of(CHECKS, 10);
        CHECKS.due("clearText", x.clearText(), 0);
        x.write("q0:0=");
        CHECKS.due("clearText", x.clearText(), 5);
        CHECKS.due("length", x.count(9), 0);
        CHECKS.due("clearText again", x.clearText(), 0);
        CHECKS.due("run", x.runText(0, "n0:0=1;"), 1);
        CHECKS.due("states", x.count(8), 2);
    }

    private static void promise11Run() {
        Auction x = Auction.of(CHECKS, 1000, 50);
        CHECKS.due("one hour", x.runText(0, "q0:0=1;"), 1);
        CHECKS.due("the bid", x.bidOf(0, 0, 0), 1);
        CHECKS.due("the text stays", x.count(9), 7);
        CHECKS.due("by another person", x.run(1), 1);
        CHECKS.due("the bid", x.bidOf(1, 0, 0), 1);
        CHECKS.due("some hours", x.runText(0, "n3:20-23=9;"), 4);
        CHECKS.due("before the first", x.bidOf(0, 3, 19), Checks.NONE);
        CHECKS.due("the first", x.bidOf(0, 3, 20), 1009);
        CHECKS.due("the last", x.bidOf(0, 3, 23), 1009);
        CHECKS.due("the same hour twice", x.runText(0, "q1:7-7=100;"), 1);
        CHECKS.due("the greatest amount", x.runText(0, "q2:0=999;"), -1000);
        CHECKS.due("all hours", x.runText(0, "q2:0-23=1;"), 24);
        CHECKS.due("free", x.person(0, 1), 1000 - 1 - 36 - 100 - 24);
        CHECKS.due("person 2", x.run(2), Checks.INVALID);
        for (int far : Checks.FAR_OFF) {
            CHECKS.due("run(" + far + ")", x.run(far), Checks.INVALID);
        }
        CHECKS.due("no failure of the wrong persons", x.failure(4), Checks.ILLEGAL);
    }

    private static void promise11RunMultiplies() {
        Auction x = Auction.of(CHECKS, 5000);
        CHECKS.due("run", x.runText(0, "2*(q0:0=5;3*(n0:1=5;)q0:2=5;)q0:3=5;(q0:4=5;)"), 5);
        int[] bids = {10, 1030, 10, 5, 5};
        for (int hour = 0; hour < bids.length; hour++) {
            CHECKS.due("hour " + hour, x.bidOf(0, 0, hour), bids[hour]);
        }
        CHECKS.due("9 times", x.runText(0, "9*(9*(9*(q1:0=1;)))"), 1);
        CHECKS.due("729", x.bidOf(0, 1, 0), 729);
        CHECKS.due("four deep", x.runText(0, "2*(3*((4*(n1:1-2=2;))))"), 2);
        CHECKS.due("48", x.bidOf(0, 1, 2), 1048);
        CHECKS.due("one behind the other", x.runText(0, "5*()5*(q1:3=1;)()q1:4=1;"), 2);
        CHECKS.due("5", x.bidOf(0, 1, 3), 5);
        CHECKS.due("1", x.bidOf(0, 1, 4), 1);
        CHECKS.due("999", x.runText(0, "9*(q1:5=111;)"), 1);
        CHECKS.due("999", x.bidOf(0, 1, 5), 999);
    }

    private static void promise11RunInOrder() {
        Auction x = Auction.of(CHECKS, 100);
        CHECKS.due("a bid in place of one", x.runText(0, "q0:0-3=9;n0:2=8;q0:3=7;"), 6);
        CHECKS.due("bids", x.count(2), 4);
        CHECKS.due("hour 1", x.bidOf(0, 0, 1), 9);
        CHECKS.due("hour 2", x.bidOf(0, 0, 2), 1008);
        CHECKS.due("hour 3", x.bidOf(0, 0, 3), 7);
        CHECKS.due("the money of a bid before", x.runText(0, "q0:0-1=1;q0:4=83;"), 3);
        CHECKS.due("free", x.person(0, 1), 0);
        CHECKS.due("in the other order", x.runText(0, "q0:4=84;q0:0=1;"), -1000);
    }

    private static void promise11RunWithoutBids() {
        Auction x = Auction.of(CHECKS, 0);
        x.breach(0, 0, 0);
        CHECKS.due("an empty text, with a debt", x.run(0), 0);
        CHECKS.due("states", x.count(8), 3);
        CHECKS.due("empty groups", x.runText(0, "()2*((9*()))"), 0);
        CHECKS.due("states", x.count(8), 4);
        CHECKS.due("a bid, with a debt", x.runText(0, "q0:0=1;"), -1000);
    }

    private static void promise11RunIsOneAction() {
        Auction x = Auction.of(CHECKS, 1000);
        String before = x.seen();
        CHECKS.due("run", x.runText(0, "q0:0-23=1;n1:0-23=2;"), 48);
        CHECKS.due("states", x.count(8), 2);
        CHECKS.due("undo", x.undo(), 1);
        CHECKS.dueText("the state before", x.seen(), before);
    }

    private static void failsAt(String text, int place) {
        Auction x = Auction.of(CHECKS, 100000);
        String before = x.seen();
        CHECKS.due("run of " + text, x.runText(0, text), -1000 - place);
        CHECKS.due("kind of " + text, x.failure(0), 1);
        CHECKS.due("place of " + text, x.failure(1), place);
        CHECKS.due("bids before " + text, x.failure(3), 0);
        CHECKS.due("code of " + text, x.failure(4), Checks.NONE);
        CHECKS.due("states behind " + text, x.count(8), 1);
        CHECKS.dueText("state behind " + text, x.seen(), before);
    }

    private static void promise11ReadingFails() {
        String whole = "2*(q0:1-2=3;)";
        for (int length = 1; length < whole.length(); length++) {
            failsAt(whole.substring(0, length), length);
        }
        failsAt("x", 0);
        failsAt("Q0:1=1;", 0);
        failsAt("N0:1=1;", 0);
        failsAt(";", 0);
        failsAt("*(q0:1=1;)", 0);
        failsAt(")", 0);
        failsAt("())", 2);
        failsAt("q4:1=1;", 1);
        failsAt("q9:1=1;", 1);
        failsAt("q/:1=1;", 1);
        failsAt("q:1=1;", 1);
        failsAt("q00:1=1;", 2);
        failsAt("q01=1;", 2);
        failsAt("q0:=1;", 3);
        failsAt("q0:1;", 4);
        failsAt("q0:1:2=1;", 4);
        failsAt("q0:1-=1;", 5);
        failsAt("q0:1-2-3=1;", 6);
        failsAt("q0:1-2;", 6);
        failsAt("q0:1=;", 5);
        failsAt("q0:1=1q0:1=1;", 6);
        failsAt("q0:1=1)", 6);
        failsAt("q0:1=1;;", 7);
        failsAt("q0:1=1; ", 7);
        failsAt(" q0:1=1;", 0);
        failsAt("q0:1=-1;", 5);
        failsAt("2(q0:1=1;)", 1);
        failsAt("2*q0:1=1;", 2);
        failsAt("2*2*(q0:1=1;)", 2);
        failsAt("2*)", 2);
        failsAt("(q0:1=1;", 8);
        failsAt("((q0:1=1;)", 10);
        failsAt("(q0:1=1;))", 9);
        failsAt("(((((", 4);
        failsAt("((((9*(", 6);
        failsAt("((((q0:1=1;(", 11);
        failsAt("(((())))(((((", 12);
    }

    private static void promise11NumbersFail() {
        failsAt("q0:24=1;", 3);
        failsAt("q0:24", 3);
        failsAt("q0:24x", 3);
        failsAt("q0:999=1;", 3);
        failsAt("q0:1000=1;", 6);
        failsAt("q0:123456=1;", 6);
        failsAt("q0:00=1;", 4);
        failsAt("q0:01=1;", 4);
        failsAt("q0:1-24=1;", 5);
        failsAt("q0:1-0=1;", 5);
        failsAt("q0:1-0", 5);
        failsAt("q0:23-22=1;", 6);
        failsAt("q0:10-9x", 6);
        failsAt("q0:10-0023=1;", 7);
        failsAt("q0:1=0;", 5);
        failsAt("q0:1=0", 5);
        failsAt("q0:1=0x", 5);
        failsAt("q0:1=00;", 6);
        failsAt("q0:1=05;", 6);
        failsAt("q0:1=1000;", 8);
        failsAt("q0:1=9999;", 8);
        failsAt("q0:1=999", 8);
        failsAt("1*(q0:1=1;)", 0);
        failsAt("0*(q0:1=1;)", 0);
        failsAt("10*(q0:1=1;)", 0);
        failsAt("100(q0:1=1;)", 0);
        failsAt("1", 0);
        failsAt("1x", 0);
        failsAt("5", 1);
        failsAt("02*(q0:1=1;)", 1);
        failsAt("2000*(q0:1=1;)", 3);
        failsAt("q0:1=1;10*()", 7);
    }

    private static void depthIs(String text, int depth) {
        Auction x = Auction.of(CHECKS, 5);
        int answer = x.runText(0, text);
        CHECKS.due("a failure of " + text, answer <= -1000 ? 1 : 0, 1);
        CHECKS.due("depth of " + text, x.failure(2), depth);
    }

    private static void promise11DepthOfFailures() {
        depthIs("x", 0);
        depthIs("2*", 0);
        depthIs("1*(", 0);
        depthIs("(x", 1);
        depthIs("(1*()", 1);
        depthIs("(2*", 1);
        depthIs("(2*(2*(", 3);
        depthIs("((q0:1=1", 2);
        depthIs("((q0:1=0;))", 2);
        depthIs("(((((", 4);
        depthIs("((((2*(", 4);
        depthIs("(())x", 0);
        depthIs("(()x", 1);
        depthIs("(()", 1);
        depthIs("())", 0);
        depthIs("q0:1=6;", 0);
        depthIs("(((q0:1=6;)))", 3);
        depthIs("(((q0:1=1;)q0:2=5;))", 2);
        depthIs("(((2*(q0:1=3;))))", 4);
        depthIs("()(q0:1=1;)q0:2=5;", 0);
    }

    private static void bidFails(Auction x, String text, int place, int depth, int made, int code) {
        String before = x.seen();
        int states = x.count(8);
        CHECKS.due("run of " + text, x.runText(0, text), -1000 - place);
        int[] parts = {2, place, depth, made, code};
        for (int what = 0; what < parts.length; what++) {
            CHECKS.due("failure(" + what + ") of " + text, x.failure(what), parts[what]);
        }
        CHECKS.due("states behind " + text, x.count(8), states);
        CHECKS.dueText("state behind " + text, x.seen(), before);
    }

    private static void promise11BidsFail() {
        Auction x = Auction.of(CHECKS, 100);
        x.bid(0, 0, 2, Checks.NOISE, 7);
        bidFails(x, "q0:1=101;", 0, 0, 0, Checks.ILLEGAL);
        bidFails(x, "q0:1=93;q0:3=1;", 8, 0, 1, Checks.ILLEGAL);
        bidFails(x, "q0:1-5=30;", 0, 0, 3, Checks.ILLEGAL);
        bidFails(x, "2*(q0:1=1;(n0:2-3=2;q0:4=50;))", 20, 2, 3, Checks.ILLEGAL);
        bidFails(x, "2*(q0:1=500;)", 3, 1, 0, Checks.INVALID);
        bidFails(x, "9*(9*(9*(9*(q0:1=999;))))", 12, 4, 0, Checks.INVALID);
        bidFails(x, "q1:0=1;9*(q0:1=112;)", 10, 1, 1, Checks.INVALID);
        x.setFine(1000);
        x.breach(0, 3, 0);
        bidFails(x, "q0:2=1;", 0, 0, 0, Checks.ILLEGAL);
        bidFails(x, "2*(q0:2=500;)", 3, 1, 0, Checks.INVALID);
    }

    private static void promise11WholeTextIsReadFirst() {
        Auction x = Auction.of(CHECKS, 10);
        CHECKS.due("run", x.runText(0, "q0:1=11;x"), -1008);
        CHECKS.due("kind", x.failure(0), 1);
        CHECKS.due("bids before", x.failure(3), 0);
        CHECKS.due("the longest text", x.runText(0, "q0:1=1;q0:1=1;q0:1=1;q0:1=1;q0:1=1;q0:1=1;q0:1=1;"
            + "q0:1=1;q0:1=1;q0:1=1;q0:1=1;q0:1=1;q0:1=1;q0:2=1;()"), 14);
        CHECKS.due("its last bid", x.bidOf(0, 0, 2), 1);
        CHECKS.due("its bids", x.count(2), 2);
        CHECKS.due("the longest unfinished text", x.runText(0, "q0:1=1;q0:1=1;q0:1=1;q0:1=1;q0:1=1;q0:1=1;q0:1=1;"
            + "q0:1=1;q0:1=1;q0:1=1;q0:1=1;q0:1=1;q0:1=1;q0:2=1;(("), -1100);
        CHECKS.due("empty groups up to the end", x.runText(0, "()".repeat(50)), 0);
    }

    private static void promise11EveryCharacter() {
        String allowed = "qn(23456789";
        for (int character = 1; character <= 255; character++) {
            Auction x = Auction.of(CHECKS, 1);
            x.append(character);
            boolean endIsMissing = allowed.indexOf((char) character) >= 0;
            CHECKS.due("run of character " + character, x.run(0), endIsMissing ? -1001 : -1000);
        }
    }

    private static void promise12Failure() {
        Auction x = Auction.of(CHECKS, 10);
        for (int what = 0; what <= 4; what++) {
            CHECKS.due("failure(" + what + ") before any", x.failure(what), Checks.NONE);
        }
        CHECKS.due("failure(5) before any", x.failure(5), Checks.INVALID);
        x.runText(0, "q0:0=1;");
        CHECKS.due("no failure yet", x.failure(0), Checks.NONE);
        x.runText(0, "(q0:0=1;(q0:1=10;))");
        int[] first = {2, 9, 2, 1, Checks.ILLEGAL};
        failureIs(x, first);
        x.run(1);
        x.clearText();
        x.run(0);
        x.undo();
        failureIs(x, first);
        x.runText(0, "(q");
        failureIs(x, new int[] {1, 2, 1, 0, Checks.NONE});
        CHECKS.due("failure(5)", x.failure(5), Checks.INVALID);
        for (int far : Checks.FAR_OFF) {
            CHECKS.due("failure(" + far + ")", x.failure(far), Checks.INVALID);
        }
    }

    private static void failureIs(Auction x, int[] parts) {
        for (int what = 0; what < parts.length; what++) {
            CHECKS.due("failure(" + what + ")", x.failure(what), parts[what]);
        }
    }
}
