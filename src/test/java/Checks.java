/** Compares answers with those that are due, and counts the ones that differ. */
final class Checks {
    static final int INVALID = -1;
    static final int ILLEGAL = -2;
    static final int FULL = -3;
    static final int NONE = -9;
    static final int QUIET = 0;
    static final int NOISE = 1;

    /** Beyond every range of the document, at both ends of it and at both ends of int. */
    static final int[] FAR_OFF = {-1, -2, 1 << 24, Integer.MAX_VALUE, Integer.MIN_VALUE};

    private final String test;
    private int wrong;
    private int right;

    Checks(String test) {
        this.test = test;
    }

    void due(String what, int got, int want) {
        if (got == want) {
            right++;
        } else {
            wrong++;
            System.out.println(test + ": " + what + " answered " + got + ", due is " + want);
        }
    }

    void dueText(String what, String got, String want) {
        boolean same = got.equals(want);
        due(what + " (" + got + " for " + want + ")", same ? 1 : 0, 1);
    }

    int made() {
        return right + wrong;
    }

    int wrong() {
        return wrong;
    }

    void end() {
        System.out.println(test + ": " + right + " right, " + wrong + " wrong");
        if (wrong > 0 || right == 0) {
            System.exit(1);
        }
    }
}
