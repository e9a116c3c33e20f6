// Entries by which abcd is worth 2147483647, or one more, at a place.
final class Limits {
    private Limits() {
    }

    /** A rule over four signs, NATURAL, SIZE 2; abcd has 2147483367 and the last summand in row 0, column 0. */
    static void rule(WordTerminator x, String text, int lastSummand) {
        x.signs(4);
        Check.rule(x, text);
        entries(x, lastSummand);
    }

    // Row 0 begins as (2, 1); each further sign makes (n, 1) to (999 n + g, 1).
    static void entries(WordTerminator x, int lastSummand) {
        x.size(2);
        Check.matrix(x, 0, 2, 2, 1, 0, 1);
        Check.matrix(x, 1, 2, 999, 0, 153, 1);
        Check.matrix(x, 2, 2, 999, 0, 784, 1);
        Check.matrix(x, 3, 2, 999, 0, lastSummand, 1);
    }

    /** The same in row 0, column 1: what a word is measured by. Row 0 begins as (1, 2) and stays (1, n). */
    static void measured(WordTerminator x, int lastSummand) {
        x.size(2);
        Check.matrix(x, 0, 2, 1, 2, 0, 1);
        Check.matrix(x, 1, 2, 1, 153, 0, 999);
        Check.matrix(x, 2, 2, 1, 784, 0, 999);
        Check.matrix(x, 3, 2, 1, lastSummand, 0, 999);
    }
}
