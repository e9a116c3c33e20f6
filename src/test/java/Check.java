// Counts answers that are not the ones due; a test ends with exit code 1 if there was one.
final class Check {
    private static int wrong = 0;

    private Check() {
    }

    static void due(String call, long got, long want) {
        if (got != want) {
            wrong++;
            System.out.println(call + " answered " + got + ", due is " + want);
        }
    }

    static void holds(String what, boolean yes) {
        if (!yes) {
            wrong++;
            System.out.println("does not hold: " + what);
        }
    }

    static int type(WordTerminator x, String text) {
        int answer = 0;
        for (int k = 0; k < text.length(); k++) {
            answer = x.type(text.charAt(k));
        }
        return answer;
    }

    static int rule(WordTerminator x, String text) {
        type(x, text);
        return x.rule();
    }

    static int word(WordTerminator x, String text) {
        type(x, text);
        return x.word();
    }

    static WordTerminator withRules(String... texts) {
        WordTerminator x = new WordTerminator();
        for (int i = 0; i < texts.length; i++) {
            due("rule " + texts[i], rule(x, texts[i]), i);
        }
        return x;
    }

    /** The entries of a sign that count, row by row. */
    static void matrix(WordTerminator x, int sign, int size, int... entries) {
        for (int e = 0; e < entries.length; e++) {
            x.enter(sign, e / size, e % size, entries[e]);
        }
    }

    static String wordOf(WordTerminator x) {
        StringBuilder letters = new StringBuilder();
        for (int k = 0; k < x.letter(-1); k++) {
            letters.append((char) ('a' + x.letter(k)));
        }
        return letters.toString();
    }

    static void end() {
        System.out.println(wrong == 0 ? "all answers are as due" : wrong + " answers are not as due");
        if (wrong != 0) {
            System.exit(1);
        }
    }
}
