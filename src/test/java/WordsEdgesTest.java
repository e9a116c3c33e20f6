// The bounds of promises 25 to 29 that are taken, and what lies on either side of them.
// Refusals stand in RefusedTest.
public final class WordsEdgesTest {
    private static final String TWENTY = "abcabcabcabcabcabcab";

    public static void main(String[] args) {
        wordOfEachLength();
        wordBehindALongerOne();
        wordTellsUsesAndStepsAnew();
        wordChangesNothingElse();
        faultAtEachPlace();
        stepAtFirstAndLastPlace();
        stepOfTheWholeWord();
        stepByTheFirstRuleOfEight();
        stepByARemovedRule();
        stepToTwentyFourAndBeyond();
        stepOfEachRight();
        stepThatStaysAtTwentyFour();
        runOfNoneAndForty();
        runStopsWithNoRoom();
        runStopsAtTheEnd();
        runAndStepsAreAlike();
        lettersOfEmptyAndFullWords();
        measureOfNoSigns();
        measureAtItsPlace();
        measureAtTheLimit();
        measureOfAFullWord();
        measureOverBehindTheBeginning();
        measureByTheLastOfEight();
        Check.end();
    }

    private static void wordIs(String what, WordTerminator x, String want) {
        String word = Check.wordOf(x);
        Check.holds(what + ": the word is " + word + ", due is " + want, word.equals(want));
        Check.due(what + ": signs of the word", x.count(4), want.length());
    }

    // Promise 25.
    private static void wordOfEachLength() {
        for (int n = 0; n <= 20; n++) {
            WordTerminator x = new WordTerminator();
            Check.due(n + " signs", Check.word(x, TWENTY.substring(0, n)), n);
            wordIs(n + " signs", x, TWENTY.substring(0, n));
            Check.due("the text is empty", x.count(6), 0);
        }
    }

    private static void wordBehindALongerOne() {
        WordTerminator x = Check.withRules("a=aa");
        Check.word(x, TWENTY);
        x.run(4);
        Check.due("24 signs", x.count(4), 24);
        Check.due("one sign", Check.word(x, "c"), 1);
        wordIs("one sign", x, "c");
        for (int k = 1; k < 24; k++) {
            Check.due("no letter " + k, x.letter(k), -1);
        }
        Check.due("no signs", x.word(), 0);
        wordIs("no signs", x, "");
        Check.due("no first letter", x.letter(0), -1);
    }

    private static void wordTellsUsesAndStepsAnew() {
        WordTerminator x = new WordTerminator();
        for (int i = 0; i < 8; i++) {
            Check.rule(x, "a=b");
        }
        x.drop(0);
        Check.rule(x, "b=c");
        Check.word(x, "ab");
        Check.due("run", x.run(40), 3);
        Check.due("uses of the first", x.info(0, 2), 1);
        Check.due("uses of the last", x.info(7, 2), 2);
        Check.due("steps", x.count(5), 3);
        Check.due("no signs", x.word(), 0);
        for (int i = 0; i < 8; i++) {
            Check.due("uses of " + i, x.info(i, 2), 0);
        }
        Check.due("steps", x.count(5), 0);
    }

    private static void wordChangesNothingElse() {
        States.State ready = x -> {
            States.full(x);
            x.wipe();
        };
        Probe.alike("two words are as the second one", x -> {
            ready.tell(x);
            Check.word(x, "dab");
            x.run(1);
            Check.word(x, "cab");
        }, x -> {
            ready.tell(x);
            Check.word(x, "cab");
        });
        WordTerminator y = new WordTerminator();
        ready.tell(y);
        Check.word(y, "d");
        Check.due("stages stay", y.count(2), 8);
        Check.due("ring stays", y.ring(2), 2);
        Check.due("size stays", y.size(3), 3);
        Check.due("entries stay", y.entry(3, 2, 2), 999);
        Check.due("sheets stay", y.get(2, 2, 59), Integer.MAX_VALUE);
    }

    private static void faultAtEachPlace() {
        for (int p = 0; p < 20; p++) {
            for (char wrong : new char[] {'d', '`', '>', 0, 255}) {
                WordTerminator x = new WordTerminator();
                Check.type(x, TWENTY.substring(0, p) + wrong + TWENTY.substring(p + 1));
                Check.due("fault at " + p, x.fault(1), p);
                Check.due("word with a fault at " + p, x.word(), -1000 - p);
                Check.due("the text stays", x.count(6), 20);
                Check.due("the word stays", x.count(4), 0);
            }
        }
    }

    // Promise 26.
    private static void stepped(String rule, String word, String want) {
        WordTerminator x = Check.withRules(rule);
        Check.word(x, word);
        Check.due(word + " by " + rule, x.step(), 0);
        wordIs(word + " by " + rule, x, want);
        Check.due("uses", x.info(0, 2), 1);
        Check.due("steps", x.count(5), 1);
    }

    private static void stepAtFirstAndLastPlace() {
        stepped("ab>c", "abccab", "cccab");
        stepped("ab>c", "cccab", "cccc");
        stepped("ab>cac", "ab", "cac");
        stepped("aa>b", "caaa", "cba");
        stepped("aba>b", "ababa", "bba");
        stepped("a>", "bbbbbbbbbbbbbbbbbbba", "bbbbbbbbbbbbbbbbbbb");
        stepped("a>", "abbbbbbbbbbbbbbbbbbb", "bbbbbbbbbbbbbbbbbbb");
    }

    private static void stepOfTheWholeWord() {
        stepped("abcabc>", "abcabc", "");
        stepped("abcabc=abcabc", "abcabc", "abcabc");
        stepped("a>", "a", "");
        stepped("a>bbbbbb", "a", "bbbbbb");
        WordTerminator x = Check.withRules("a>");
        Check.word(x, "a");
        Check.due("step", x.step(), 0);
        Check.due("no signs are left", x.step(), -3);
        WordTerminator y = Check.withRules("abcabc>");
        Check.word(y, "abcab");
        Check.due("the left is longer than the word", y.step(), -3);
    }

    private static void stepByTheFirstRuleOfEight() {
        WordTerminator x = new WordTerminator();
        for (int i = 0; i < 7; i++) {
            Check.rule(x, "bb>");
        }
        Check.rule(x, "a>b");
        Check.word(x, "ab");
        Check.due("the eighth alone is there", x.step(), 7);
        Check.due("now the first is", x.step(), 0);
        wordIs("now the first is", x, "");
        WordTerminator y = Check.withRules("c>a", "b>c", "a>b");
        Check.word(y, "abc");
        Check.due("the first rule, though its place is the last", y.step(), 0);
        wordIs("the first rule", y, "aba");
    }

    private static void stepByARemovedRule() {
        WordTerminator x = new WordTerminator();
        States.eightStages(x);
        Check.word(x, "d");
        Check.due("by a removed one", x.step(), 0);
        wordIs("d", x, "aaaaaa");
        Check.due("the first that is there", x.step(), 1);
        wordIs("a", x, "baaaaa");
        Check.due("rule 1 goes ahead of rule 2", x.step(), 1);
        Check.due("stages stay", x.count(2), 8);
    }

    private static void stepToTwentyFourAndBeyond() {
        for (int right = 1; right <= 6; right++) {
            for (int n = 17; n <= 20; n++) {
                WordTerminator x = Check.withRules("a>" + "cccccc".substring(0, right));
                Check.word(x, "bbbbbbbbbbbbbbbbbbbbb".substring(0, n - 1) + "a");
                int then = n - 1 + right;
                Check.due("step to " + then, x.step(), then > 24 ? -4 : 0);
                Check.due("signs", x.count(4), then > 24 ? n : then);
                Check.due("uses", x.info(0, 2), then > 24 ? 0 : 1);
                Check.due("steps", x.count(5), then > 24 ? 0 : 1);
                Check.due("the last sign", x.letter(x.count(4) - 1), then > 24 ? 0 : 2);
            }
        }
    }

    private static void stepOfEachRight() {
        for (int left = 1; left <= 6; left++) {
            for (int right = 0; right <= 6; right++) {
                String gone = "aaaaaa".substring(0, left);
                String put = "bcbcbc".substring(0, right);
                stepped(gone + "=" + put, "cc" + gone + "cb", "cc" + put + "cb");
            }
        }
    }

    private static void stepThatStaysAtTwentyFour() {
        WordTerminator x = Check.withRules("a=aa", "aa=aaa", "aaa=aab", "b=b");
        Check.word(x, "a");
        x.run(23);
        Check.due("24 signs", x.count(4), 24);
        Check.due("no room", x.step(), -4);
        Check.due("drop", x.drop(0), 3);
        Check.due("no room for 25", x.step(), -4);
        Check.due("drop", x.drop(0), 2);
        Check.due("24 signs for 24", x.step(), 0);
        wordIs("24 signs for 24", x, "aabaaaaaaaaaaaaaaaaaaaaa");
        Check.due("steps", x.count(5), 24);
        Check.rule(x, "aaaaaa=");
        Check.due("drop", x.drop(0), 2);
        Check.due("by b", x.step(), 0);
        Check.due("drop", x.drop(0), 1);
        Check.due("six fewer", x.step(), 0);
        wordIs("six fewer", x, "aabaaaaaaaaaaaaaaa");
    }

    // Promise 27.
    private static void runOfNoneAndForty() {
        WordTerminator x = Check.withRules("a=a");
        Check.word(x, "a");
        Check.due("run(0)", x.run(0), 0);
        Check.due("no steps", x.count(5), 0);
        Check.due("run(1)", x.run(1), 1);
        Check.due("run(40)", x.run(40), 40);
        Check.due("steps", x.count(5), 41);
        Check.due("run(41)", x.run(41), -2);
        Check.due("run(-1)", x.run(-1), -2);
        Check.due("steps", x.count(5), 41);
        Check.due("uses", x.info(0, 2), 41);
    }

    private static void runStopsWithNoRoom() {
        for (int n = 0; n <= 40; n++) {
            WordTerminator x = Check.withRules("a=aa", "b=");
            Check.word(x, "ab");
            int done = Math.min(n, 22);
            Check.due("run(" + n + ")", x.run(n), done);
            Check.due("signs", x.count(4), 2 + done);
            Check.due("uses", x.info(0, 2), done);
            Check.due("uses of the one behind it", x.info(1, 2), 0);
        }
        WordTerminator y = Check.withRules("a=aa");
        Check.word(y, "a");
        Check.due("to 24 signs", y.run(23), 23);
        Check.due("24 signs", y.count(4), 24);
        Check.due("no further", y.run(1), 0);
    }

    // aabb becomes bbaa by four steps.
    private static void runStopsAtTheEnd() {
        for (int n = 0; n <= 40; n++) {
            WordTerminator x = Check.withRules("ab>ba");
            Check.word(x, "aabb");
            int done = Math.min(n, 4);
            Check.due("run(" + n + ")", x.run(n), done);
            Check.due("steps", x.count(5), done);
            Check.due("and on", x.run(40), 4 - done);
            Check.due("and no further", x.run(40), 0);
            wordIs("at the end", x, "bbaa");
        }
        Check.due("no word", Check.withRules("a>").run(40), 0);
        WordTerminator none = new WordTerminator();
        Check.word(none, "a");
        Check.due("no rules", none.run(40), 0);
    }

    private static void runAndStepsAreAlike() {
        States.State ready = x -> {
            States.eightStages(x);
            Check.word(x, "abcabcdd");
        };
        for (int each : new int[] {1, 2, 7, 40}) {
            int n = each;
            Probe.alike("run(" + n + ") and as many steps", x -> {
                ready.tell(x);
                x.run(n);
            }, x -> {
                ready.tell(x);
                for (int k = 0; k < n; k++) {
                    x.step();
                }
            });
        }
    }

    // Promise 28.
    private static void lettersOfEmptyAndFullWords() {
        WordTerminator x = new WordTerminator();
        for (int k = -1; k < 24; k++) {
            Check.due("letter " + k + " of no word", x.letter(k), k == -1 ? 0 : -1);
        }
        x.signs(4);
        Check.rule(x, "d>dccccc");
        Check.word(x, "abcabcabcabcabcabcd");
        Check.due("to 24 signs", x.step(), 0);
        String full = "abcabcabcabcabcabcdccccc";
        Check.due("how many", x.letter(-1), 24);
        for (int k = 0; k < 24; k++) {
            Check.due("letter " + k, x.letter(k), full.charAt(k) - 'a');
        }
        Check.due("letter(24)", x.letter(24), -2);
        Check.due("letter(-2)", x.letter(-2), -2);
    }

    // Promise 29.
    private static void measureOfNoSigns() {
        for (int ring = 0; ring <= 2; ring++) {
            for (int size = 1; size <= 3; size++) {
                WordTerminator x = new WordTerminator();
                x.ring(ring);
                x.size(size);
                Check.due("no signs, ring " + ring + ", SIZE " + size, x.measure(-1), ring == 0 && size == 1 ? 1 : 0);
            }
        }
    }

    private static void measureAtItsPlace() {
        for (int ring = 0; ring <= 2; ring++) {
            for (int size = 1; size <= 3; size++) {
                WordTerminator x = new WordTerminator();
                for (int e = 0; e < 9; e++) {
                    x.enter(1, e / 3, e % 3, 100 + e);
                }
                Check.word(x, "b");
                x.ring(ring);
                x.size(size);
                Check.due("b, ring " + ring + ", SIZE " + size, x.measure(-1), ring == 0 ? 99 + size : 100);
                x.enter(1, 0, ring == 0 ? size - 1 : 0, -1);
                Check.due("NONE, ring " + ring + ", SIZE " + size, x.measure(-1), ring == 0 ? 0 : -1);
            }
        }
    }

    private static void measureAtTheLimit() {
        for (int summand = 279; summand <= 282; summand++) {
            WordTerminator x = new WordTerminator();
            x.signs(4);
            Check.rule(x, "aa>a");
            Check.word(x, "abcd");
            Limits.measured(x, summand);
            int want = summand <= 280 ? 2147483367 + summand : -5;
            Check.due("by the entries, summand " + summand, x.measure(-1), want);
            Check.due("stage", x.stage(), 1);
            Check.due("by the stage, summand " + summand, x.measure(0), want);
            x.size(1);
            Check.due("by entries of SIZE 1", x.measure(-1), 1);
            Check.due("by the stage still", x.measure(0), want);
        }
    }

    private static WordTerminator fullWord() {
        WordTerminator x = Check.withRules("a=aa");
        Check.word(x, "a");
        x.run(23);
        return x;
    }

    private static void measureOfAFullWord() {
        WordTerminator x = fullWord();
        x.enter(0, 0, 0, 2);
        Check.due("2 to the 24th", x.measure(-1), 16777216);
        x.enter(0, 0, 0, 3);
        Check.due("3 to the 24th", x.measure(-1), -5);
        x.enter(0, 0, 0, 999);
        Check.due("999 to the 24th", x.measure(-1), -5);
        x.enter(0, 0, 0, 16);
        Check.due("16 to the 24th, 0 by any wrap", x.measure(-1), -5);
        x.enter(0, 0, 0, 0);
        Check.due("0", x.measure(-1), 0);
        x.enter(0, 0, 0, 999);
        for (int ring = 1; ring <= 2; ring++) {
            x.ring(ring);
            Check.due("24 times 999, ring " + ring, x.measure(-1), 23976);
        }
        x.enter(0, 0, 0, -1);
        Check.due("24 times NONE", x.measure(-1), -1);
        x.ring(0);
        Check.due("NONE is 0", x.measure(-1), 0);
        x.size(3);
        Check.matrix(x, 0, 3, 1, 1, 0, 0, 1, 1, 0, 0, 1);
        Check.due("24 over 2", x.measure(-1), 276);
        Check.matrix(x, 0, 3, 1, 999, 0, 0, 1, 999, 0, 0, 1);
        Check.due("276 times 998001", x.measure(-1), 275448276);
    }

    private static void measureOverBehindTheBeginning() {
        WordTerminator x = new WordTerminator();
        x.enter(0, 0, 0, 999);
        x.enter(1, 0, 0, 0);
        String[] words = {"aaab", "aaaab", "baaaa", "aaabaaaa"};
        int[] want = {0, -5, 0, 0};
        for (int k = 0; k < words.length; k++) {
            Check.word(x, words[k]);
            Check.due("measure of " + words[k], x.measure(-1), want[k]);
        }
        x.size(2);
        x.enter(0, 1, 0, 0);
        Check.word(x, "aaaa");
        Check.due("OVER at another place than it is measured by", x.measure(-1), -5);
    }

    private static void measureByTheLastOfEight() {
        WordTerminator x = new WordTerminator();
        States.eightStages(x);
        Check.word(x, "abcd");
        for (int k = 0; k < 8; k++) {
            Check.due("by stage " + k, x.measure(k), 2);
        }
        Check.due("measure(8)", x.measure(8), -2);
        Check.due("measure(-2)", x.measure(-2), -2);
        Check.due("by the entries", x.measure(-1), 0);
        Check.due("back", x.back(), 7);
        Check.due("measure(7)", x.measure(7), -2);
        Check.due("measure(6)", x.measure(6), 2);
    }
}
