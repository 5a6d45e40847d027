/** Compares answers with those that are due, and counts the ones that differ. */
final class Checks {
    static final int INVALID = -1;
    static final int ILLEGAL = -2;
    static final int FULL = -3;
    static final int NONE = -9;
    static final int QUIET = 0;
    static final int NOISE = 1;

    /** Beyond every range of the document, at both ends of it and at both ends of int. */
    static final int[] FAR_OFF = {-1, -2, 1 << 24, Integer.MAX_VALUE, Integer.MIN_VALUE};

    private final String test;
    private int wrong;
    private int right;

    Checks(String test) {
        this.test = test;
    }

    void due(String what, int got, int want) {
        if (got == want) {
            right++;
        } else {
            wrong++;
            System.out.println(test + ": " + what + " answered " + got + ", due is " + want);
        }
    }

    void dueText(String what, String got, String want) {
        boolean same = got.equals(want);
        due(what + " (" + got + " for " + want + ")", same ? 1 : 0, 1);
    }

    int made() {
        return right + wrong;
    }

    int wrong() {
        return wrong;
    }

    void end() {
        System.out.println(test + ": " + right + " right, " + wrong + " wrong");
        if (wrong > 0 || right == 0) {
            System.exit(1);
        }
    }

    /** An auction in which one person has joined for each purse. */
    static SilenceHours auction(int... purses) {
        SilenceHours auction = new SilenceHours();
        for (int purse : purses) {
            auction.join(purse);
        }
        return auction;
    }

    static void write(SilenceHours auction, String text) {
        auction.clearText();
        for (int i = 0; i < text.length(); i++) {
            auction.append(text.charAt(i));
        }
    }

    static int runText(SilenceHours auction, int person, String text) {
        write(auction, text);
        return auction.run(person);
    }

    /** All that can be seen of the state that undo() brings back. */
    static String seen(SilenceHours auction) {
        StringBuilder seen = new StringBuilder();
        for (int what = 0; what <= 7; what++) {
            seen.append(auction.count(what)).append(' ');
        }
        for (int person = 0; person < auction.count(1); person++) {
            for (int what = 0; what <= 7; what++) {
                seen.append(auction.person(person, what)).append(' ');
            }
        }
        for (int street = 0; street < 4; street++) {
            seen.append(auction.fund(street)).append(' ');
            for (int hour = 0; hour < 24; hour++) {
                for (int what = 0; what <= 5; what++) {
                    seen.append(auction.slot(street, hour, what)).append(' ');
                }
                for (int person = 0; person < auction.count(1); person++) {
                    seen.append(auction.bidOf(person, street, hour)).append(' ');
                }
            }
        }
        return seen.toString();
    }

    /** What seen() tells, and besides it the history, the text and the failure. */
    static String allSeen(SilenceHours auction) {
        StringBuilder seen = new StringBuilder(seen(auction));
        seen.append(auction.count(8)).append(' ').append(auction.count(9));
        for (int what = 0; what <= 4; what++) {
            seen.append(' ').append(auction.failure(what));
        }
        return seen.toString();
    }
}
