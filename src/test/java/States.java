// Ways to bring a new object to where the document's bounds are; none takes more than 150 calls.
final class States {
    /** Tells an object something; what it was before does not matter to the one who asks. */
    interface State {
        void tell(WordTerminator x);
    }

    /** Eight rules that eight stages can take away one by one, the first of which makes words longer. */
    static final String[] EIGHT = {"d>aaaaaa", "a>b", "b>c", "c>", "ab>ba", "ac=ca", "bc=cb", "ad=da"};

    private States() {
    }

    static void fresh(WordTerminator x) {
    }

    static void eightRules(WordTerminator x) {
        x.signs(4);
        for (String text : EIGHT) {
            Check.rule(x, text);
        }
    }

    static void eightStages(WordTerminator x) {
        eightRules(x);
        for (int sign : new int[] {3, 0, 1, 2}) {
            x.enter(sign, 0, 0, 2);
            x.stage();
            x.enter(sign, 0, 0, 1);
        }
        x.size(2);
        x.enter(0, 0, 0, 2);
        commute(x, 1);
        commute(x, 2);
        x.enter(0, 0, 0, 1);
        x.enter(1, 0, 0, 2);
        commute(x, 2);
        x.enter(1, 0, 0, 1);
        x.enter(0, 0, 0, 2);
        commute(x, 3);
    }

    // With the sign that doubles ahead of it, the one that adds is worth more than behind it.
    private static void commute(WordTerminator x, int adding) {
        x.enter(adding, 0, 1, 1);
        x.stage();
        x.enter(adding, 0, 1, -1);
    }

    /** Three rules, two of them removed, one sheet of each form and one lost, something told everywhere. */
    static void busy(WordTerminator x) {
        Check.rule(x, "aa>b");
        Check.rule(x, "c=cc");
        Check.rule(x, "bc>");
        x.enter(0, 0, 0, 2);
        x.stage();
        x.enter(1, 0, 0, 2);
        x.stage();
        Check.word(x, "aaabc");
        x.run(3);
        x.ring(1);
        x.size(2);
        x.enter(0, 0, 1, 7);
        x.enter(1, 1, 0, 999);
        x.enter(2, 2, 2, 0);
        for (int s = 0; s < 3; s++) {
            x.sheet(s, s, 5 - s);
            x.lay(s, s, 0, 40 + s);
            x.lay(s, s, 2, -40);
        }
        Check.type(x, "ab>cd");
    }

    /** All that has a bound is at it: signs, rules, stages, text, word, entries, sheets; no step has room. */
    static void full(WordTerminator x) {
        eightStages(x);
        Check.word(x, "abcabcabcabddd");
        x.run(2);
        x.ring(2);
        x.size(3);
        x.enter(0, 0, 0, 999);
        x.enter(3, 2, 2, 999);
        x.enter(1, 0, 0, 0);
        for (int s = 0; s < 4; s++) {
            x.sheet(s, s % 3, 60);
            x.lay(s, s % 3, 59, Integer.MAX_VALUE);
            x.lay(s, s % 3, 0, Integer.MIN_VALUE);
        }
        Check.type(x, "abcdabcdabcdabcdabc>");
    }
}
