// The bounds of promises 17 to 24 that are taken, and what lies on either side of them.
// Refusals stand in RefusedTest.
public final class StagesEdgesTest {
    // One search after the other finds a stage for each of these, with B 1, three signs and SIZE 2.
    private static final String[] ONE_BY_ONE = {"bcac>bac", "cbab>abb", "abcc>cbc", "bab>bcb", "a=", "cac>cc", "ccbb>b",
        "caab>cb"};

    public static void main(String[] args) {
        stageOfOneRule();
        stageOfEachOfEight();
        stageOfAllEight();
        stageAtTheLimit();
        stageOfFreeRulesAlone();
        stageWhereSoundIsJustSo();
        stageWithOneRuleThatRises();
        stageKeepsWhatDoesNotCount();
        backFromEightToNone();
        backLeavesTheReading();
        stagesOfFewAndMany();
        stagesKeepRingAndSize();
        keptAtEachPlace();
        swapFirstAndLast();
        swapTwiceIsNothing();
        swapChangesStagesAlone();
        endsWithAndWithoutStrictRules();
        searchOfOneSign();
        searchFindsTheLastTry();
        searchWithTheMostTries();
        searchOfEachBase();
        searchUpToTheBase();
        searchOfEachSize();
        searchByOtherRings();
        searchTellsNothingElse();
        autoLaysEight();
        autoBehindStages();
        autoLaysNone();
        Check.end();
    }

    private static WordTerminator by(int signs, int ring, int size, String... rules) {
        WordTerminator x = new WordTerminator();
        x.signs(signs);
        x.ring(ring);
        x.size(size);
        for (int i = 0; i < rules.length; i++) {
            Check.due("rule " + rules[i], Check.rule(x, rules[i]), i);
        }
        return x;
    }

    // Promise 17.
    private static void stageOfOneRule() {
        WordTerminator x = Check.withRules("a>");
        Check.due("1 does not fall to 1", x.stage(), -3);
        x.enter(0, 0, 0, 2);
        Check.due("2 does", x.stage(), 1);
        Check.due("one stage", x.count(2), 1);
        Check.due("none left", x.count(1), 0);
        Check.due("no stage with none left", x.stage(), -3);
    }

    private static void stageOfEachOfEight() {
        WordTerminator x = new WordTerminator();
        States.eightStages(x);
        for (int k = 0; k < 8; k++) {
            Check.due("bits of stage " + k, x.stages(k, 0), 1 << k);
            Check.due("rule " + k, x.info(k, 1), k);
        }
        Check.due("eight stages", x.count(2), 8);
        Check.due("a ninth", x.stage(), -3);
    }

    private static void stageOfAllEight() {
        WordTerminator x = Check.withRules("aa>a", "aa=", "a>", "a=b", "a>bbbbbb", "aab>ba", "aaaaaa>aaaaa", "ca=c");
        Check.due("none falls", x.stage(), -3);
        x.enter(0, 0, 0, 2);
        Check.due("all fall", x.stage(), 255);
        Check.due("none left", x.count(1), 0);
        Check.due("one stage", x.count(2), 1);
        for (int i = 0; i < 8; i++) {
            Check.due("rule " + i + " is removed by", x.info(i, 1), 0);
        }
    }

    private static void stageAtTheLimit() {
        WordTerminator x = by(4, 0, 2, "abcd>");
        Limits.measured(x, 281);
        Check.due("2147483648", x.stage(), -3);
        Check.due("no stage", x.count(2), 0);
        Limits.measured(x, 280);
        Check.due("2147483647", x.value(0, 0, 0, 1), 2147483647);
        Check.due("falls", x.stage(), 1);
        WordTerminator y = by(4, 0, 2, "d>", "a=abcd");
        Limits.measured(y, 281);
        Check.due("a free one whose right is OVER", y.stage(), -3);
        Check.due("no rule is left but the first", y.drop(1), 1);
        Check.due("stage", y.stage(), 1);
    }

    private static void stageOfFreeRulesAlone() {
        WordTerminator x = Check.withRules("a=b", "b=c");
        x.enter(0, 0, 0, 2);
        Check.due("ends ahead of it", x.ends(), 1);
        Check.due("a free one falls", x.stage(), 1);
        x.enter(1, 0, 0, 2);
        Check.due("the other one", x.stage(), 2);
        Check.due("ends", x.ends(), 1);
    }

    private static void stageWhereSoundIsJustSo() {
        WordTerminator x = Check.withRules("aa>a");
        x.size(3);
        Check.matrix(x, 0, 3, 1, 0, 1, 0, 0, 0, 0, 0, 1);
        x.enter(1, 1, 1, -1);
        Check.due("first and last are 1", x.stage(), 1);
        x.back();
        x.enter(1, 2, 2, 0);
        Check.due("the last of another sign is 0", x.stage(), -3);
        WordTerminator y = Check.withRules("aa>a");
        y.ring(2);
        y.enter(0, 0, 0, 1);
        y.enter(1, 0, 0, 0);
        Check.due("ARCTIC, the first of another sign is 0", y.stage(), 1);
        y.back();
        y.enter(1, 0, 0, -1);
        Check.due("ARCTIC, it is NONE", y.stage(), -3);
    }

    private static void stageWithOneRuleThatRises() {
        for (int rising = 0; rising < 8; rising++) {
            WordTerminator x = new WordTerminator();
            for (int i = 0; i < 8; i++) {
                Check.rule(x, i == rising ? "b=a" : "a>b");
            }
            x.enter(0, 0, 0, 2);
            Check.due("rule " + rising + " rises", x.stage(), -3);
            Check.due("drop of it", x.drop(rising), 7);
            Check.due("the others fall", x.stage(), 127);
        }
    }

    private static void stageKeepsWhatDoesNotCount() {
        WordTerminator x = Check.withRules("aa>a");
        x.enter(0, 0, 0, 2);
        x.enter(2, 2, 1, 999);
        Check.due("stage", x.stage(), 1);
        x.enter(2, 2, 1, 5);
        Check.due("beyond SIZE it is kept", x.kept(0, 2, 2, 1), 999);
        Check.due("entries are as they are", x.entry(2, 2, 1), 5);
    }

    // Promise 18.
    private static void backFromEightToNone() {
        WordTerminator x = new WordTerminator();
        States.eightStages(x);
        for (int left = 7; left >= 0; left--) {
            Check.due("back to " + left, x.back(), left);
            Check.due("not removed", x.count(1), 8 - left);
            Check.due("stages", x.count(2), left);
            Check.due("what was the last is none", x.stages(left, 0), -2);
        }
        Check.due("back of none", x.back(), -3);
        Check.due("rules may be told again", Check.rule(x, "a>"), -4);
        Check.due("and dropped", x.drop(0), 7);
    }

    private static void backLeavesTheReading() {
        Probe.alike("stage and back", x -> {
            States.busy(x);
            x.back();
        }, x -> {
            States.busy(x);
            x.ring(0);
            x.size(1);
            x.back();
            x.enter(1, 0, 0, 2);
            x.stage();
            x.back();
            x.ring(1);
            x.size(2);
        });
    }

    // Promise 19.
    private static void stagesOfFewAndMany() {
        WordTerminator x = new WordTerminator();
        States.eightStages(x);
        for (int k = 0; k < 8; k++) {
            Check.due("ring of " + k, x.stages(k, 1), 0);
            Check.due("size of " + k, x.stages(k, 2), k < 4 ? 1 : 2);
            Check.due("as the first, " + k, x.stages(k, 3), k == 0 ? 1 : -1);
        }
        Check.due("stages(8, 0)", x.stages(8, 0), -2);
        Check.due("stages(-1, 0)", x.stages(-1, 0), -2);
        Check.due("stages(7, 4)", x.stages(7, 4), -2);
        Check.due("stages(7, -1)", x.stages(7, -1), -2);
        WordTerminator all = Check.withRules("a>", "aa>", "aaa>", "aab>", "ab=", "ba=", "a=b", "ca>b");
        all.enter(0, 0, 0, 2);
        all.stage();
        Check.due("all eight as the first", all.stages(0, 3), 255);
        Check.due("BAD with no stage", new WordTerminator().stages(0, 3), -2);
    }

    private static void stagesKeepRingAndSize() {
        WordTerminator x = Check.withRules("aa>a", "bb>b", "cc>c");
        for (int k = 0; k < 3; k++) {
            for (int sign = 0; sign < 3; sign++) {
                for (int e = 0; e < 9; e++) {
                    x.enter(sign, e / 3, e % 3, e % 4 == 0 ? 1 : k == 0 ? 0 : -1);
                }
            }
            x.ring(k);
            x.size(3 - k);
            for (int sign = 0; sign < 3 && k > 0; sign++) {
                Check.matrix(x, sign, 3, 0, -1, -1, -1, 0, -1, -1, -1, 0);
            }
            x.enter(k, 0, 2 - k, 1);
            x.enter(k, 1, 1, 1);
            x.enter(k, 0, 0, 1);
            Check.due("stage " + k, x.stage(), 1 << k);
        }
        x.ring(0);
        x.size(2);
        for (int k = 0; k < 3; k++) {
            Check.due("ring of " + k, x.stages(k, 1), k);
            Check.due("size of " + k, x.stages(k, 2), 3 - k);
        }
    }

    // Promise 20.
    private static void keptAtEachPlace() {
        WordTerminator x = by(4, 0, 1, "aa>a", "bb>b");
        for (int e = 0; e < 36; e++) {
            x.enter(e / 9, e / 3 % 3, e % 3, e == 9 ? 1 : 900 + e);
        }
        x.enter(0, 0, 0, 2);
        x.enter(3, 2, 2, 999);
        x.enter(3, 2, 1, -1);
        Check.due("stage", x.stage(), 1);
        for (int e = 0; e < 36; e++) {
            x.enter(e / 9, e / 3 % 3, e % 3, 100 + e);
        }
        Check.due("stage", x.stage(), 2);
        for (int e = 0; e < 36; e++) {
            int first = e == 0 ? 2 : e == 9 ? 1 : e == 35 ? 999 : e == 34 ? -1 : 900 + e;
            Check.due("kept by 0, " + e, x.kept(0, e / 9, e / 3 % 3, e % 3), first);
            Check.due("kept by 1, " + e, x.kept(1, e / 9, e / 3 % 3, e % 3), 100 + e);
        }
    }

    // Promise 21. Each of these eight stages leaves all other rules as they are.
    private static void eightApart(WordTerminator x) {
        x.signs(4);
        for (String text : new String[] {"aa>a", "bb>b", "cc>c", "dd>d", "ab=ba", "ac=ca", "bc=cb", "ad=da"}) {
            Check.rule(x, text);
        }
        for (int sign = 0; sign < 4; sign++) {
            x.enter(sign, 0, 0, 2);
            x.stage();
            x.enter(sign, 0, 0, 1);
        }
        x.size(2);
        int[][] pairs = {{0, 1}, {0, 2}, {1, 2}, {0, 3}};
        for (int[] pair : pairs) {
            x.enter(pair[0], 0, 0, 2);
            x.enter(pair[1], 0, 1, 1);
            x.stage();
            x.enter(pair[0], 0, 0, 1);
            x.enter(pair[1], 0, 1, -1);
        }
    }

    private static void swapFirstAndLast() {
        WordTerminator x = new WordTerminator();
        eightApart(x);
        Check.due("eight stages", x.count(2), 8);
        Check.due("swap(7)", x.swap(7), -2);
        Check.due("swap(-1)", x.swap(-1), -2);
        for (int k = 0; k < 7; k++) {
            Check.due("swap(" + k + ")", x.swap(k), 2 << k);
            Check.due("the one above", x.stages(k + 1, 0), 1);
            Check.due("rule 0 is removed by", x.info(0, 1), k + 1);
        }
        for (int k = 0; k < 7; k++) {
            Check.due("what " + k + " removes", x.stages(k, 0), 2 << k);
            Check.due("size of " + k, x.stages(k, 2), k < 3 ? 1 : 2);
        }
        Check.due("kept by what is the last", x.kept(7, 0, 0, 0), 2);
        Check.due("size of what is the last", x.stages(7, 2), 1);
        Check.due("back", x.back(), 7);
        Check.due("rule 0 is there again", x.info(0, 1), -1);
        Check.due("swap(6) of seven", x.swap(6), -2);
        Check.due("swap(5) of seven", x.swap(5), 128);
    }

    private static void swapTwiceIsNothing() {
        for (int each = 0; each < 7; each++) {
            int k = each;
            Probe.alike("swap(" + k + ") twice", StagesEdgesTest::eightApart, x -> {
                eightApart(x);
                Check.due("swap(" + k + ")", x.swap(k), 2 << k);
                Check.due("swap(" + k + ") again", x.swap(k), 1 << k);
            });
        }
    }

    private static void swapChangesStagesAlone() {
        WordTerminator x = new WordTerminator();
        States.State ready = y -> {
            eightApart(y);
            Check.word(y, "aabbd");
            y.run(2);
            y.ring(2);
            y.size(3);
            y.enter(1, 2, 0, 33);
            Check.type(y, "ab>");
        };
        ready.tell(x);
        Check.due("swap(0)", x.swap(0), 2);
        Check.due("ring stays", x.ring(2), 2);
        Check.due("size stays", x.size(3), 3);
        Check.due("entries stay", x.entry(1, 2, 0), 33);
        Check.due("the first entry stays", x.entry(0, 0, 0), 1);
        Check.due("stages", x.count(2), 8);
        Check.due("not removed", x.count(1), 0);
        Check.due("steps stay", x.count(5), 2);
        Check.due("uses stay", x.info(0, 2), 1);
        Check.due("the text stays", x.count(6), 3);
        Check.holds("the word stays", Check.wordOf(x).equals("abd"));
    }

    // Promise 22.
    private static void endsWithAndWithoutStrictRules() {
        Check.due("no rules", new WordTerminator().ends(), 1);
        WordTerminator free = Check.withRules("a=", "a=", "a=", "a=", "a=", "a=", "a=");
        Check.due("free ones alone", free.ends(), 1);
        Check.due("an eighth, strict", Check.rule(free, "b>"), 7);
        Check.due("the last alone is strict", free.ends(), 0);
        free.enter(1, 0, 0, 2);
        Check.due("stage", free.stage(), 128);
        Check.due("seven free ones are left", free.count(1), 7);
        Check.due("ends", free.ends(), 1);
        Check.due("back", free.back(), 0);
        Check.due("not any more", free.ends(), 0);
        WordTerminator x = new WordTerminator();
        States.eightStages(x);
        for (int k = 7; k >= 0; k--) {
            Check.due("ends with " + (k + 1), x.ends(), k >= 4 ? 1 : 0);
            x.back();
        }
        Check.due("strict ones of eight", x.count(3), 5);
        Check.due("ends with none", x.ends(), 0);
    }

    // Promise 23.
    private static void searchOfOneSign() {
        for (int b = 1; b <= 9; b++) {
            WordTerminator x = by(1, 0, 1, "aa>a");
            Check.due("search(" + b + ") of one sign", x.search(b), b == 1 ? -1 : 2);
            Check.due("entry", x.entry(0, 0, 0), b == 1 ? 1 : 2);
        }
        Check.due("search(0)", by(1, 0, 1, "aa>a").search(0), -2);
        Check.due("search(10)", by(1, 0, 1, "aa>a").search(10), -2);
    }

    private static void searchFindsTheLastTry() {
        WordTerminator x = by(1, 0, 1, "aa>a");
        Check.due("2 of 0 to 2", x.search(2), 2);
        WordTerminator y = by(4, 0, 1, "a=b", "b=c", "c=d", "d=a", "aa>a");
        Check.due("2 2 2 2, the last of 81", y.search(2), 80);
        for (int sign = 0; sign < 4; sign++) {
            Check.due("entry of " + sign, y.entry(sign, 0, 0), 2);
        }
        Check.due("none of 16", y.search(1), -1);
        for (int ring = 1; ring <= 2; ring++) {
            WordTerminator z = by(4, ring, 1, "a=b", "b=c", "c=d", "d=a", "aa>a");
            Check.due("1 1 1 1, the last of 81, ring " + ring, z.search(2), 80);
            Check.due("entry", z.entry(3, 0, 0), 1);
            Check.due("none of 16", z.search(1), -1);
        }
    }

    private static void searchWithTheMostTries() {
        WordTerminator x = by(4, 0, 1, "a>b");
        Check.due("9 to the 4th: 2 1 1 1", x.search(8), 2 * 729 + 81 + 9 + 1);
        Check.due("10 to the 4th", x.search(9), -3);
        WordTerminator y = by(2, 0, 2, "a>b");
        Check.due("3 to the 8th: 1 1 0 1, 1 0 0 1", y.search(2), 37 * 81 + 28);
        Check.due("4 to the 8th", y.search(3), -3);
        WordTerminator z = by(3, 0, 2, "b>a");
        Check.due("2 to the 12th: 1 0 0 1, 1 1 0 1, 1 0 0 1", z.search(1), 9 * 256 + 13 * 16 + 9);
        Check.due("3 to the 12th", z.search(2), -3);
        WordTerminator w = by(1, 0, 2, "aa>a");
        Check.due("9 to the 4th: 1 1 0 1", w.search(8), 729 + 81 + 1);
        Check.due("10 to the 4th", w.search(9), -3);
        WordTerminator v = by(1, 0, 3, "aa>a");
        Check.due("2 to the 9th: 1 0 1, 0 0 0, 0 0 1", v.search(1), 256 + 64 + 1);
        Check.due("3 to the 9th", v.search(2), -3);
        WordTerminator u = by(3, 0, 1, "a>b");
        Check.due("10 to the third: 2 1 1", u.search(9), 211);
    }

    private static void searchOfEachBase() {
        for (int b = 2; b <= 9; b++) {
            WordTerminator x = by(2, 0, 1, "b>a");
            Check.due("search(" + b + "): 1 2", x.search(b), b + 3);
            WordTerminator y = by(2, 2, 1, "b>a");
            Check.due("search(" + b + ") by ARCTIC: 0 1", y.search(b), b + 3);
            Check.due("0 is digit 1", y.entry(0, 0, 0), 0);
            Check.due("1 is digit 2", y.entry(1, 0, 0), 1);
        }
    }

    // Only where b is the greatest number that a base has can these be weak, and one of them fall.
    private static void searchUpToTheBase() {
        WordTerminator x = by(2, 0, 1, "b=aaa", "aaa=b", "aa>a");
        Check.due("NATURAL, 2 8, to the base 8", x.search(7), -1);
        Check.due("NATURAL, 2 8, to the base 9", x.search(8), 2 * 9 + 8);
        Check.due("entry", x.entry(1, 0, 0), 8);
        Check.due("NATURAL, 2 8, to the base 10", x.search(9), 28);
        for (int ring = 1; ring <= 2; ring++) {
            WordTerminator y = by(3, ring, 1, "b=cccc", "cccc=b", "c=aa", "aa=c", "aa>a");
            Check.due("1 8 2, to the base 9", y.search(8), -1);
            Check.due("1 8 2, to the base 10", y.search(9), 293);
            Check.due("8 has digit 9", y.entry(1, 0, 0), 8);
        }
    }

    private static void searchOfEachSize() {
        int[] numbers = {2, 9 * 3 + 9 + 1, -3};
        for (int size = 1; size <= 3; size++) {
            WordTerminator x = by(1, 0, size, "aa>a");
            Check.due("search(2), SIZE " + size, x.search(2), numbers[size - 1]);
        }
    }

    private static void searchByOtherRings() {
        for (int ring = 1; ring <= 2; ring++) {
            WordTerminator x = by(2, ring, 1, "ab>");
            Check.due("NONE and 0 are not enough", x.search(1), -1);
            Check.due("0 1", x.search(2), 5);
            Check.due("search(8)", x.search(8), 9 + 2);
            WordTerminator y = by(1, ring, 1, "a>");
            Check.due("1 is digit 2", y.search(9), 2);
            Check.due("entry", y.entry(0, 0, 0), 1);
        }
        WordTerminator none = by(1, 1, 2, "a>");
        none.enter(0, 0, 0, 5);
        none.enter(0, 0, 1, 6);
        Check.due("TROPIC, SIZE 2: 1 NONE, NONE NONE", none.search(2), 2 * 27);
        Check.due("NONE is told", none.entry(0, 0, 1), -1);
        Check.due("NONE is told in the last place, too", none.entry(0, 1, 1), -1);
    }

    private static void searchTellsNothingElse() {
        States.State ready = x -> {
            Check.rule(x, "a>b");
            Check.rule(x, "b=c");
            Check.word(x, "aab");
            x.run(1);
            x.enter(0, 0, 0, 9);
            x.enter(1, 0, 1, 77);
            x.enter(2, 2, 2, 999);
            x.sheet(1, 1, 6);
            Check.type(x, "a>");
        };
        Probe.alike("search is as three entries", x -> {
            ready.tell(x);
            Check.due("2 1 1", x.search(9), 211);
        }, x -> {
            ready.tell(x);
            x.enter(0, 0, 0, 2);
            x.enter(1, 0, 0, 1);
            x.enter(2, 0, 0, 1);
        });
        WordTerminator y = new WordTerminator();
        y.signs(4);
        y.enter(3, 0, 0, 55);
        y.signs(3);
        Check.rule(y, "a>b");
        Check.due("search", y.search(2), 22);
        y.drop(0);
        y.signs(4);
        Check.due("a sign that was none then stays", y.entry(3, 0, 0), 55);
    }

    // Promise 24.
    private static void autoLaysEight() {
        WordTerminator x = by(3, 0, 2, ONE_BY_ONE);
        Check.due("auto(1)", x.auto(1), 8);
        int[] removed = {64, 2, 8, 1, 32, 128, 4, 16};
        int[] first = {64, 66, -1, -1, -1, -1, -1, 188};
        for (int k = 0; k < 8; k++) {
            Check.due("what " + k + " removes", x.stages(k, 0), removed[k]);
            Check.due("what " + k + " would remove as the first", x.stages(k, 3), first[k]);
        }
        Check.due("stages", x.count(2), 8);
        Check.due("none left", x.count(1), 0);
        Check.due("ends", x.ends(), 1);
        Check.due("auto(1) again", x.auto(1), 0);
        Check.due("search(1)", x.search(1), -1);
        for (int e = 0; e < 12; e++) {
            Check.due("entries are those of the last", x.entry(e / 4, e / 2 % 2, e % 2), x.kept(7, e / 4, e / 2 % 2, e % 2));
        }
    }

    private static void autoBehindStages() {
        for (int left = 0; left < 8; left++) {
            WordTerminator x = by(3, 0, 2, ONE_BY_ONE);
            x.auto(1);
            long whole = x.digest();
            while (x.count(2) > left) {
                x.back();
            }
            Check.due("auto(1) behind " + left, x.auto(1), 8 - left);
            Check.due("all as before", x.digest(), whole);
        }
        WordTerminator y = by(3, 0, 2, ONE_BY_ONE);
        int laid = 0;
        while (laid < 9 && y.search(1) != -1) {
            Check.holds("a search finds what a stage can be laid by", y.stage() > 0);
            laid++;
        }
        Check.due("by hand as many", laid, 8);
        WordTerminator z = by(3, 0, 2, ONE_BY_ONE);
        z.auto(1);
        Check.due("by hand the same", y.digest(), z.digest());
    }

    private static void autoLaysNone() {
        for (int b = 1; b <= 9; b++) {
            WordTerminator x = by(3, 0, 1, "a>a");
            Check.due("auto(" + b + ")", x.auto(b), 0);
            Check.due("no stage", x.count(2), 0);
        }
        Check.due("auto(0)", by(1, 0, 1, "a>").auto(0), -2);
        Check.due("auto(10)", by(1, 0, 1, "a>").auto(10), -2);
        Check.due("auto(9), 10 tries", by(1, 0, 1, "a>").auto(9), 1);
        Check.due("auto(1), 2 tries", by(1, 0, 1, "a>").auto(1), 0);
        Check.due("auto(8), 9 to the 4th", by(4, 0, 1, "a>").auto(8), 1);
        Check.due("auto(9), 10 to the 4th", by(4, 0, 1, "a>").auto(9), -3);
    }
}
