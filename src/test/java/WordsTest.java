// Promises 25 to 29: word, step, run, letter, measure.
public final class WordsTest {
    public static void main(String[] args) {
        word();
        step();
        stepRefused();
        run();
        letter();
        measure();
        measureOver();
        Check.end();
    }

    private static void word() {
        WordTerminator x = Check.withRules("a=aa");
        Check.due("no signs", x.word(), 0);
        Check.due("20 signs", Check.word(x, "abcabcabcabcabcabcab"), 20);
        Check.due("text is empty", x.count(6), 0);
        Check.due("run", x.run(2), 2);
        Check.due("uses", x.info(0, 2), 2);
        Check.due("steps", x.count(5), 2);
        Check.type(x, "abd");
        Check.due("a fault", x.word(), -1002);
        Check.due("the text stays", x.count(6), 3);
        Check.due("the word stays", x.count(4), 22);
        Check.due("uses stay", x.info(0, 2), 2);
        Check.due("steps stay", x.count(5), 2);
        x.wipe();
        Check.due("another word", Check.word(x, "cb"), 2);
        Check.due("uses are 0", x.info(0, 2), 0);
        Check.due("steps are 0", x.count(5), 0);
        Check.holds("the word is cb", Check.wordOf(x).equals("cb"));
        Check.type(x, "a>");
        Check.due("a rule is no word", x.word(), -1001);
    }

    private static void stepped(WordTerminator x, int by, String word) {
        Check.due("step() to " + word, x.step(), by);
        Check.holds("the word is " + word, Check.wordOf(x).equals(word));
    }

    private static void step() {
        WordTerminator x = Check.withRules("cc>", "ab>bca", "b=b");
        Check.word(x, "cabab");
        stepped(x, 1, "cbcaab");
        stepped(x, 1, "cbcabca");
        stepped(x, 1, "cbcbcaca");
        stepped(x, 2, "cbcbcaca");
        Check.due("uses of 1", x.info(1, 2), 3);
        Check.due("uses of 2", x.info(2, 2), 1);
        Check.due("steps", x.count(5), 4);
        Check.word(x, "acccab");
        stepped(x, 0, "acab");
        stepped(x, 1, "acbca");
        x.enter(0, 0, 0, 2);
        x.enter(2, 0, 0, 2);
        Check.word(x, "cc");
        stepped(x, 0, "");
        Check.due("no step in no word", x.step(), -3);

        WordTerminator y = Check.withRules("aa>a");
        y.enter(0, 0, 0, 2);
        Check.due("stage", y.stage(), 1);
        Check.word(y, "aab");
        stepped(y, 0, "ab");
        Check.due("uses of a removed one", y.info(0, 2), 1);
        Check.due("no step", y.step(), -3);
        Check.due("steps", y.count(5), 1);
    }

    private static void stepRefused() {
        WordTerminator x = Check.withRules("a=bbbbbb", "b>");
        Check.word(x, "bbbbbbbbbbbbbbbbbbba");
        Check.due("25 signs, though another rule could", x.step(), -4);
        Check.due("nothing changes", x.count(4), 20);
        Check.due("no use", x.info(0, 2), 0);
        Check.due("run stops", x.run(3), 0);
        Check.due("no steps", x.count(5), 0);
        Check.word(x, "bbbbbbbbbbbbbbbbbba");
        Check.due("24 signs", x.step(), 0);
        Check.due("24 signs", x.letter(-1), 24);
        Check.due("the last of 24", x.letter(23), 1);
        WordTerminator y = new WordTerminator();
        Check.word(y, "a");
        Check.due("no rules", y.step(), -3);
    }

    private static void run() {
        WordTerminator x = Check.withRules("ab=ba", "c=c");
        Check.word(x, "aabb");
        Check.due("run(-1)", x.run(-1), -2);
        Check.due("run(41)", x.run(41), -2);
        Check.due("run(0)", x.run(0), 0);
        Check.due("run(3)", x.run(3), 3);
        Check.due("run(40) to the end", x.run(40), 1);
        Check.holds("the word is bbaa", Check.wordOf(x).equals("bbaa"));
        Check.due("run(40) at the end", x.run(40), 0);
        Check.word(x, "c");
        Check.due("run(40)", x.run(40), 40);
        Check.due("uses", x.info(1, 2), 40);
        Check.due("steps", x.count(5), 40);
        WordTerminator y = Check.withRules("a=aa");
        Check.word(y, "a");
        Check.due("until there is no room", y.run(40), 23);
        Check.due("no room", y.step(), -4);
    }

    private static void letter() {
        WordTerminator x = new WordTerminator();
        Check.word(x, "cab");
        Check.due("how many", x.letter(-1), 3);
        Check.due("0", x.letter(0), 2);
        Check.due("1", x.letter(1), 0);
        Check.due("2", x.letter(2), 1);
        Check.due("3", x.letter(3), -1);
        Check.due("23", x.letter(23), -1);
        Check.due("24", x.letter(24), -2);
        Check.due("-2", x.letter(-2), -2);
    }

    private static void measure() {
        WordTerminator x = Check.withRules("a>b");
        x.enter(0, 0, 0, 3);
        x.stage();
        Check.word(x, "aab");
        Check.due("by the stage", x.measure(0), 9);
        x.size(2);
        Check.matrix(x, 0, 2, 2, 1, 5, 1);
        Check.matrix(x, 1, 2, 1, 4, 0, 1);
        Check.due("aab: row 0, column 1", x.measure(-1), 9 * 4 + 3);
        Check.due("by the stage still", x.measure(0), 9);
        x.ring(2);
        Check.due("ARCTIC, row 0, column 0: 6 by aa, and 1, or 3 and 0", x.measure(-1), 7);
        x.ring(1);
        Check.due("TROPIC, row 0, column 0: 4, 2 by aa", x.measure(-1), 2);
        Check.matrix(x, 0, 2, -1, -1, 5, 1);
        Check.due("NONE", x.measure(-1), -1);
        Check.due("measure(1)", x.measure(1), -2);
        Check.due("measure(-2)", x.measure(-2), -2);
        x.word();
        Check.due("no signs by TROPIC", x.measure(-1), 0);
        Check.due("no signs by the stage", x.measure(0), 1);
        x.ring(0);
        Check.due("no signs, row 0, column 1", x.measure(-1), 0);
    }

    private static void measureOver() {
        WordTerminator x = Check.withRules("a>b");
        x.enter(0, 0, 0, 999);
        x.stage();
        Check.word(x, "aaab");
        Check.due("999 to the third", x.measure(0), 997002999);
        Check.word(x, "aaaabc");
        Check.due("OVER by the stage", x.measure(0), -5);
        x.enter(1, 0, 0, 0);
        Check.due("a beginning is OVER", x.measure(-1), -5);
        x.ring(2);
        Check.due("never OVER by ARCTIC", x.measure(-1), 4 * 999 + 1);
        Check.due("BAD", x.measure(1), -2);
        x.ring(0);
        x.size(2);
        Check.due("OVER elsewhere than in row 0, column 1", x.measure(-1), -5);
    }
}
