// The bounds of promises 1 to 9 that are taken, and what lies on either side of them.
// Refusals stand in RefusedTest.
public final class RulesEdgesTest {
    private static final String TWENTY = "abcabcabcabcabcabcab";

    public static void main(String[] args) {
        newObjectIsEmpty();
        newObjectsShareNothing();
        leastAndGreatestSigns();
        lettersThatAreSigns();
        signsWithoutRulesAndWord();
        signsLeaveOthersAsTheyWere();
        leastAndGreatestByte();
        fullText();
        wipeOfEmptyAndFullText();
        faultsOfTheEmptyText();
        faultsOfTheFullText();
        bytesBesideTheSignsAndArrows();
        shortestAndLongestSides();
        everyBeginningOfTheLongestRule();
        eightRules();
        ruleTakesTheTextAlone();
        dropFirstAndLast();
        dropDownToNone();
        sidesAtTheirPlaces();
        stageOfARemovedRule();
        usesBeyondOneRun();
        usesSinceTheRuleWasTold();
        weakAtTheLimit();
        placesInFullAndEmptyWords();
        Check.end();
    }

    // Promise 1.
    private static void newObjectIsEmpty() {
        WordTerminator x = new WordTerminator();
        for (int what = 0; what <= 8; what++) {
            Check.due("new: count " + what, x.count(what), 0);
        }
        for (int e = 0; e < 27; e++) {
            Check.due("new: entry " + e, x.entry(e / 9, e / 3 % 3, e % 3), e / 3 % 3 == e % 3 ? 1 : -1);
        }
        Check.due("new: a third sign", x.entry(2, 0, 0), 1);
        Check.due("new: no fourth sign", x.entry(3, 0, 0), -2);
        Check.due("new: no rule", x.info(0, 0), -2);
        Check.due("new: no stage", x.stages(0, 0), -2);
        Check.due("new: wipe", x.wipe(), 0);
        Check.due("new: no letters", x.letter(-1), 0);
        Check.due("new: no first letter", x.letter(0), -1);
        Check.due("new: NATURAL", x.ring(0), 0);
        Check.due("new: SIZE 1", x.size(1), 1);
        Check.due("new: three signs", x.signs(4), 3);
        for (int e = 0; e < 9; e++) {
            Check.due("new: entry of what is a fourth sign then", x.entry(3, e / 3, e % 3), e % 4 == 0 ? 1 : -1);
        }
        for (int s = 0; s < 4; s++) {
            Check.due("new: sheet " + s + " is lost", x.lose(s), -11);
        }
    }

    private static void newObjectsShareNothing() {
        WordTerminator one = new WordTerminator();
        WordTerminator other = new WordTerminator();
        long before = other.digest();
        States.full(one);
        Check.due("another object is as it was", other.digest(), before);
        Check.due("another object's sheets are lost", other.lose(0), -11);
        Check.due("a later object is new", new WordTerminator().digest(), before);
    }

    // Promise 2.
    private static void leastAndGreatestSigns() {
        WordTerminator x = new WordTerminator();
        int before = 3;
        for (int n : new int[] {1, 4, 4, 2, 3, 1, 1}) {
            Check.due("signs(" + n + ")", x.signs(n), before);
            Check.due("the last of " + n, x.entry(n - 1, 0, 0), 1);
            Check.due("one more than " + n, x.entry(n, 0, 0), -2);
            before = n;
        }
    }

    private static void lettersThatAreSigns() {
        for (int m = 1; m <= 4; m++) {
            for (char c = 'a' - 1; c <= 'a' + 5; c++) {
                WordTerminator x = new WordTerminator();
                x.signs(m);
                boolean sign = c >= 'a' && c < 'a' + m;
                Check.due("type", x.type(c), 1);
                Check.due(c + " as a word, " + m, x.fault(1), sign ? -1 : 0);
                Check.due(c + " as a rule, " + m, x.fault(0), sign ? 1 : 0);
                Check.due(c + " becomes a word, " + m, x.word(), sign ? 1 : -1000);
                Check.due(c + " is its number, " + m, x.letter(0), sign ? c - 'a' : -1);
            }
        }
    }

    private static void signsWithoutRulesAndWord() {
        WordTerminator x = new WordTerminator();
        Check.due("an empty word is told", x.word(), 0);
        Check.due("signs with an empty word", x.signs(4), 3);
        Check.word(x, "d");
        Check.due("signs with a word", x.signs(3), -3);
        Check.rule(x, "d>");
        Check.due("the word becomes empty by a step", x.step(), 0);
        Check.due("signs with a rule", x.signs(3), -3);
        Check.due("drop", x.drop(0), 0);
        Check.type(x, "d>d");
        Check.due("signs with a text, a sheet and entries", x.signs(3), 4);
        Check.due("d is none now", x.fault(0), 0);
        Check.due("steps stay", x.count(5), 1);
    }

    private static void signsLeaveOthersAsTheyWere() {
        States.State told = x -> {
            x.ring(2);
            x.size(3);
            x.enter(2, 1, 0, 17);
            x.sheet(1, 2, 4);
            Check.type(x, "ab>d");
        };
        Probe.alike("signs there and back", told, x -> {
            told.tell(x);
            x.signs(1);
            x.signs(3);
        });
    }

    // Promise 3.
    private static void leastAndGreatestByte() {
        WordTerminator x = new WordTerminator();
        Check.due("type(0)", x.type(0), 1);
        Check.due("type(255)", x.type(255), 2);
        Check.due("type(-1)", x.type(-1), -2);
        Check.due("type(256)", x.type(256), -2);
        Check.due("type('a' and 256)", x.type('a' + 256), -2);
        Check.due("two bytes", x.count(6), 2);
        Check.due("0 is no sign", x.fault(1), 0);
    }

    private static void fullText() {
        WordTerminator x = new WordTerminator();
        for (int k = 1; k <= 20; k++) {
            Check.due("byte " + k, x.type('a' + k % 3), k);
        }
        Check.due("byte 21", x.type('a'), -4);
        Check.due("count(6)", x.count(6), 20);
        Check.due("as a word", x.word(), 20);
        for (int k = 0; k < 20; k++) {
            Check.due("letter " + k, x.letter(k), (k + 1) % 3);
        }
        Check.due("room again", x.type('a'), 1);
    }

    // Promise 4.
    private static void wipeOfEmptyAndFullText() {
        WordTerminator x = new WordTerminator();
        Check.due("wipe of an empty text", x.wipe(), 0);
        Check.due("wipe of it again", x.wipe(), 0);
        Check.type(x, TWENTY);
        Check.due("wipe of a full text", x.wipe(), 20);
        Check.due("it is empty", x.count(6), 0);
        Check.due("as a rule", x.fault(0), 0);
        Check.due("as a word", x.fault(1), -1);
        Check.due("wipe once more", x.wipe(), 0);
        Check.due("type", x.type('b'), 1);
        Check.due("wipe of one", x.wipe(), 1);
        Probe.alike("wipe changes nothing else", y -> {
            States.full(y);
            y.wipe();
            Check.type(y, "ab");
        }, y -> {
            States.full(y);
            y.wipe();
            Check.type(y, "c>c");
            y.wipe();
            Check.type(y, "ab");
        });
    }

    // Promise 5.
    private static void faultsOfTheEmptyText() {
        WordTerminator x = new WordTerminator();
        Check.due("empty as a rule", x.fault(0), 0);
        Check.due("empty as a word", x.fault(1), -1);
    }

    private static void faults(String text, int asRule, int asWord) {
        WordTerminator x = new WordTerminator();
        Check.type(x, text);
        Check.due("fault(0) of " + text, x.fault(0), asRule);
        Check.due("fault(1) of " + text, x.fault(1), asWord);
        Check.due("the text stays", x.count(6), text.length());
    }

    private static void faultsOfTheFullText() {
        faults(TWENTY, 6, -1);
        faults("abcabcabcabcabcabca>", 6, 19);
        faults(">abcabcabcabcabcabca", 0, 0);
        faults("abcabc>abcabcabcabca", 13, 6);
        faults("a>abcabcabcabcabcabc", 8, 1);
        faults("abcabc=abcabc======>", 13, 6);
        faults("dddddddddddddddddddd", 0, 0);
    }

    private static void bytesBesideTheSignsAndArrows() {
        faults("a<", 1, 1);
        faults("a=", -1, 1);
        faults("a>", -1, 1);
        faults("a?", 1, 1);
        faults("`", 0, 0);
        faults("a>`", 2, 1);
        faults("c>c", -1, 1);
        faults("c>d", 2, 1);
        faults("A", 0, 0);
        faults("\u00e1", 0, 0);
        faults("a\u00bd", 1, 1);
        faults("a\u00be", 1, 1);
        faults("\u0000", 0, 0);
        faults("\u00ff", 0, 0);
        for (int b = 0; b <= 255; b++) {
            WordTerminator x = new WordTerminator();
            x.type('a');
            x.type(b);
            boolean sign = b == 'a' || b == 'b' || b == 'c';
            boolean arrow = b == '>' || b == '=';
            Check.due("a and byte " + b + " as a rule", x.fault(0), sign ? 2 : arrow ? -1 : 1);
            Check.due("a and byte " + b + " as a word", x.fault(1), sign ? -1 : 1);
        }
    }

    // Promise 6.
    private static void shortestAndLongestSides() {
        for (int left = 0; left <= 7; left++) {
            for (int right = 0; right <= 7; right++) {
                WordTerminator x = new WordTerminator();
                Check.type(x, "abcabca".substring(0, left) + "=" + "cbacbac".substring(0, right));
                int fault = left == 0 ? 0 : left == 7 ? 6 : right == 7 ? left + 7 : -1;
                Check.due("fault of " + left + " and " + right, x.fault(0), fault);
                Check.due("rule of " + left + " and " + right, x.rule(), fault == -1 ? 0 : -1000 - fault);
                Check.due("left of " + left + " and " + right, x.side(0, 0, -1), fault == -1 ? left : -2);
                Check.due("right of " + left + " and " + right, x.side(0, 1, -1), fault == -1 ? right : -2);
            }
        }
    }

    private static void everyBeginningOfTheLongestRule() {
        String longest = "abcabc>cbacba";
        for (int n = 0; n <= longest.length(); n++) {
            WordTerminator x = new WordTerminator();
            Check.type(x, longest.substring(0, n));
            Check.due("the first " + n + " bytes", x.fault(0), n < 7 ? n : -1);
            Check.due("and > as a byte more", x.type('>'), n + 1);
            Check.due("with it", x.fault(0), n == 0 ? 0 : n < 7 ? -1 : n);
        }
    }

    private static void eightRules() {
        WordTerminator x = new WordTerminator();
        for (int i = 0; i < 8; i++) {
            Check.due("count(0)", x.count(0), i);
            Check.due("rule " + i, Check.rule(x, i % 2 == 0 ? "abcabc>cbacba" : "a="), i);
        }
        Check.due("count(0)", x.count(0), 8);
        Check.due("a ninth", Check.rule(x, "a>"), -4);
        Check.due("count(0)", x.count(0), 8);
        for (int i = 0; i < 8; i++) {
            Check.due("strict " + i, x.info(i, 0), i % 2 == 0 ? 1 : 0);
            Check.due("left of " + i, x.side(i, 0, -1), i % 2 == 0 ? 6 : 1);
        }
        Check.due("drop(7)", x.drop(7), 7);
        Check.due("the text of the refused one is there still", x.rule(), 7);
        Check.due("its left", x.side(7, 0, 0), 0);
        Check.due("it is strict", x.info(7, 0), 1);
    }

    private static void ruleTakesTheTextAlone() {
        WordTerminator x = new WordTerminator();
        Check.word(x, "abc");
        Check.due("rule", Check.rule(x, "a>b"), 0);
        Check.due("the text is empty", x.count(6), 0);
        Check.due("the word stays", x.letter(-1), 3);
        Check.due("it is not removed", x.info(0, 1), -1);
        Check.due("no stage", x.count(2), 0);
        Check.due("a rule like it", Check.rule(x, "a>b"), 1);
    }

    // Promise 7.
    private static void dropFirstAndLast() {
        for (int gone : new int[] {0, 3, 7}) {
            WordTerminator x = new WordTerminator();
            States.eightRules(x);
            Check.due("drop(" + gone + ")", x.drop(gone), 7);
            for (int i = 0; i < 7; i++) {
                String text = States.EIGHT[i < gone ? i : i + 1];
                int left = Math.max(text.indexOf('>'), text.indexOf('='));
                Check.due("rule " + i + " behind drop(" + gone + ")", x.side(i, 0, 0), text.charAt(0) - 'a');
                Check.due("its left", x.side(i, 0, -1), left);
                Check.due("its right", x.side(i, 1, -1), text.length() - left - 1);
                Check.due("strict", x.info(i, 0), text.indexOf('>') >= 0 ? 1 : 0);
            }
            Check.due("no rule 7", x.side(7, 0, 0), -2);
            Check.due("room again", Check.rule(x, "a>"), 7);
        }
    }

    private static void dropDownToNone() {
        WordTerminator x = new WordTerminator();
        States.eightRules(x);
        for (int left = 7; left >= 0; left--) {
            Check.due("drop of one just behind", x.drop(left + 1), -2);
            Check.due("drop of the last", x.drop(left), left);
        }
        Check.due("drop of none", x.drop(0), -2);
        Check.due("all ends", x.ends(), 1);
        Check.due("the first again", Check.rule(x, "a>"), 0);
    }

    // Promise 8.
    private static void sidesAtTheirPlaces() {
        WordTerminator x = Check.withRules("abcabc>cbacba", "b=");
        for (int k = 0; k < 6; k++) {
            Check.due("left, place " + k, x.side(0, 0, k), k % 3);
            Check.due("right, place " + k, x.side(0, 1, k), 2 - k % 3);
            Check.due("left of one, place " + k, x.side(1, 0, k), k == 0 ? 1 : -1);
            Check.due("right of none, place " + k, x.side(1, 1, k), -1);
        }
        Check.due("left, how many", x.side(0, 0, -1), 6);
        Check.due("right, how many", x.side(0, 1, -1), 6);
        Check.due("left of one, how many", x.side(1, 0, -1), 1);
        Check.due("right of none, how many", x.side(1, 1, -1), 0);
        for (int k : new int[] {-2, 6}) {
            Check.due("left, place " + k, x.side(0, 0, k), -2);
            Check.due("right, place " + k, x.side(0, 1, k), -2);
        }
    }

    // Promise 9.
    private static void stageOfARemovedRule() {
        WordTerminator x = new WordTerminator();
        States.eightStages(x);
        for (int i = 0; i < 8; i++) {
            Check.due("rule " + i + " is removed by", x.info(i, 1), i);
        }
        for (int k = 7; k >= 0; k--) {
            Check.due("back", x.back(), k);
            Check.due("rule " + k + " is there again", x.info(k, 1), -1);
            Check.due("the one before is removed still", x.info(Math.max(0, k - 1), 1), k == 0 ? -1 : k - 1);
        }
    }

    private static void usesBeyondOneRun() {
        WordTerminator x = Check.withRules("a=a");
        Check.word(x, "a");
        Check.due("no uses", x.info(0, 2), 0);
        for (int k = 1; k <= 400; k++) {
            Check.due("run", x.run(40), 40);
        }
        Check.due("uses", x.info(0, 2), 16000);
        Check.due("steps", x.count(5), 16000);
        Check.due("a word anew", x.word(), 0);
        Check.due("no uses", x.info(0, 2), 0);
    }

    private static void usesSinceTheRuleWasTold() {
        WordTerminator x = Check.withRules("b=b");
        Check.word(x, "ab");
        Check.due("run", x.run(3), 3);
        Check.rule(x, "a=a");
        Check.due("uses of a new one", x.info(1, 2), 0);
        Check.due("drop", x.drop(0), 1);
        Check.due("run", x.run(2), 2);
        Check.due("uses since it was told", x.info(0, 2), 2);
        Check.due("steps since the word was told", x.count(5), 5);
        Check.rule(x, "b=b");
        Check.due("told again it has no uses", x.info(1, 2), 0);
    }

    private static void weakAtTheLimit() {
        WordTerminator x = new WordTerminator();
        Limits.rule(x, "abcd=abcd", 280);
        Check.due("2147483647 on both sides: weak", x.info(0, 3), 1);
        Check.due("2147483647 on both sides: does not fall", x.info(0, 4), 0);
        WordTerminator y = new WordTerminator();
        Limits.rule(y, "abcd=abcd", 281);
        Check.due("2147483648 on both sides: not weak", y.info(0, 3), 0);
        Check.due("2147483648 on both sides: does not fall", y.info(0, 4), 0);
        WordTerminator z = new WordTerminator();
        Limits.rule(z, "a=abcd", 281);
        Check.due("2147483648 on the right: not weak", z.info(0, 3), 0);
        WordTerminator w = new WordTerminator();
        Limits.rule(w, "abcd=a", 281);
        Check.due("2147483648 on the left: not weak", w.info(0, 3), 0);
        Check.due("nor does it fall", w.info(0, 4), 0);
    }

    private static void placesInFullAndEmptyWords() {
        WordTerminator x = Check.withRules("a=aa", "aa=a", "aaaaaa=a", "b=", "ab=");
        for (int i = 0; i < 5; i++) {
            Check.due("places in no word", x.info(i, 5), 0);
        }
        Check.word(x, "a");
        Check.due("run to 24 signs", x.run(40), 23);
        int[] full = {24, 23, 19, 0, 0};
        for (int i = 0; i < 5; i++) {
            Check.due("places in a full word, rule " + i, x.info(i, 5), full[i]);
        }
        Check.word(x, "aaaab");
        int[] atTheEnd = {4, 3, 0, 1, 1};
        for (int i = 0; i < 5; i++) {
            Check.due("places at the end, rule " + i, x.info(i, 5), atTheEnd[i]);
        }
        Check.word(x, "aaaaaa");
        Check.due("the whole word", x.info(2, 5), 1);
        Check.word(x, "aaaaa");
        Check.due("one sign less", x.info(2, 5), 0);
    }
}
