// Sentences of the document that the tests by promise look at in few cases alone: what holds at
// each place, by each RING and SIZE, and what each act leaves as it was.
public final class SentencesTest {
    private static final int NONE = -1;

    public static void main(String[] args) {
        weakAndFallsAtEachPlace();
        valuesByEachRingAndSize();
        measureByStagesOfEachRingAndSize();
        swapOfUnlikeRingsAndSizes();
        searchFindsTheFirstTry();
        autoByEachRing();
        stagesKeepWhileEntriesChange();
        textOutlastsOtherActs();
        sheetsTouchNothingElse();
        stepsAndStagesLeaveEachOther();
        Check.end();
    }

    private static void fill(WordTerminator x, int sign, int size, int v) {
        for (int e = 0; e < size * size; e++) {
            x.enter(sign, e / size, e % size, v);
        }
    }

    // "none of the numbers of LEFT is less", "in row 0, column SIZE less 1", "at each place":
    // a has 5 and b has 4 at all places but one.
    private static void weakAndFallsAtEachPlace() {
        for (int ring = 0; ring <= 2; ring++) {
            for (int size = 1; size <= 3; size++) {
                for (int e = 0; e < size * size; e++) {
                    boolean counts = ring != 0 || e == size - 1;
                    placeJudged(ring, size, e, 5, 4, 1, 1);
                    placeJudged(ring, size, e, 5, 5, 1, counts ? 0 : 1);
                    placeJudged(ring, size, e, 5, 6, 0, 0);
                    placeJudged(ring, size, e, 5, NONE, ring == 1 ? 0 : 1, ring == 1 ? 0 : 1);
                    placeJudged(ring, size, e, NONE, 4, ring == 1 ? 1 : 0, ring == 1 ? 1 : 0);
                    placeJudged(ring, size, e, NONE, NONE, 1, ring == 0 && counts ? 0 : 1);
                }
            }
        }
    }

    private static void placeJudged(int ring, int size, int e, int left, int right, int weak, int falls) {
        WordTerminator x = Check.withRules("a>b");
        x.ring(ring);
        x.size(size);
        fill(x, 0, size, 5);
        fill(x, 1, size, 4);
        x.enter(0, e / size, e % size, left);
        x.enter(1, e / size, e % size, right);
        String what = "ring " + ring + ", SIZE " + size + ", place " + e + ": " + left + " and " + right;
        Check.due(what + ", weak", x.info(0, 3), weak);
        Check.due(what + ", falls", x.info(0, 4), falls);
        Check.due(what + ", how many are weak", x.count(7), weak);
    }

    // Entries that are unlike at all places and for all signs, some of them NONE.
    private static int sample(int sign, int x, int y) {
        int v = (sign * 31 + x * 7 + y * 13 + sign * x * y) % 11;
        return v % 5 == 3 ? NONE : v + 1;
    }

    private static void tellSamples(WordTerminator x, int signs) {
        for (int sign = 0; sign < signs; sign++) {
            for (int e = 0; e < 9; e++) {
                x.enter(sign, e / 3, e % 3, sample(sign, e / 3, e % 3));
            }
        }
    }

    private static long plus(int ring, long p, long q) {
        if (ring == 0) {
            return p + q;
        }
        return p == NONE ? q : q == NONE ? p : ring == 1 ? Math.min(p, q) : Math.max(p, q);
    }

    private static long times(int ring, long p, long q) {
        if (ring == 0) {
            return Math.max(0, p) * Math.max(0, q);
        }
        return p == NONE || q == NONE ? NONE : p + q;
    }

    // Asked once for each place, as an object is good for 512 calls alone.
    private static int[][][] entriesOf(WordTerminator x, int signs) {
        int[][][] entries = new int[signs][3][3];
        for (int e = 0; e < signs * 9; e++) {
            entries[e / 9][e / 3 % 3][e % 3] = x.entry(e / 9, e / 3 % 3, e % 3);
        }
        return entries;
    }

    /** One row of a word's value, sign by sign, the first sign first. */
    private static long[] rowOf(int[][][] entries, String word, int ring, int size, int row) {
        long[] made = new long[size];
        for (int y = 0; y < size; y++) {
            made[y] = ring == 0 ? (y == row ? 1 : 0) : y == row ? 0 : NONE;
        }
        for (char c : word.toCharArray()) {
            long[] next = new long[size];
            for (int y = 0; y < size; y++) {
                long all = ring == 0 ? 0 : NONE;
                for (int z = 0; z < size; z++) {
                    all = plus(ring, all, times(ring, made[z], entries[c - 'a'][z][y]));
                }
                next[y] = all;
            }
            made = next;
        }
        return made;
    }

    // "that of all but the last SIGN, multiplied with the MATRIX of the last".
    private static void valuesByEachRingAndSize() {
        String[] sides = {"ab", "ba", "abc", "cba", "aabb", "bcad", "dcab", "cbd"};
        for (int k = 0; k < sides.length; k += 2) {
            for (int ring = 0; ring <= 2; ring++) {
                for (int size = 1; size <= 3; size++) {
                    WordTerminator x = new WordTerminator();
                    x.signs(4);
                    Check.rule(x, sides[k] + "=" + sides[k + 1]);
                    tellSamples(x, 4);
                    int[][][] entries = entriesOf(x, 4);
                    x.ring(ring);
                    x.size(size);
                    for (int e = 0; e < size * size; e++) {
                        String what = "ring " + ring + ", SIZE " + size + ", place " + e + " of ";
                        for (int s = 0; s <= 1; s++) {
                            Check.due(what + sides[k + s], x.value(0, s, e / size, e % size),
                                rowOf(entries, sides[k + s], ring, size, e / size)[e % size]);
                        }
                    }
                }
            }
        }
    }

    /** Tells entries by which aa>a falls, and no rule of other signs rises; ENTRIES of b are samples. */
    private static void tellFalling(WordTerminator x, int ring, int size) {
        tellSamples(x, 3);
        x.ring(ring);
        x.size(size);
        fill(x, 0, size, ring == 0 ? 0 : 1);
        for (int line = 0; line < size && ring == 0; line++) {
            x.enter(0, line, line, 1);
            x.enter(1, line, line, 3);
        }
        if (ring == 0) {
            x.enter(0, 0, size - 1, size == 1 ? 2 : 1);
        }
        x.enter(2, 0, 0, 4);
        x.enter(2, size - 1, size - 1, 4);
    }

    // "in row 0, column SIZE less 1 by NATURAL, in row 0, column 0 by TROPIC and ARCTIC".
    private static void measureByStagesOfEachRingAndSize() {
        for (int ring = 0; ring <= 2; ring++) {
            for (int size = 1; size <= 3; size++) {
                WordTerminator x = Check.withRules("aa>a");
                Check.word(x, "abacb");
                tellFalling(x, ring, size);
                long want = rowOf(entriesOf(x, 3), "abacb", ring, size, 0)[ring == 0 ? size - 1 : 0];
                String what = "ring " + ring + ", SIZE " + size;
                Check.due(what + ": by the entries", x.measure(-1), want);
                Check.due(what + ": stage", x.stage(), 1);
                x.ring((ring + 1) % 3);
                x.size(size % 3 + 1);
                fill(x, 0, 3, 7);
                fill(x, 1, 3, NONE);
                Check.due(what + ": by the stage", x.measure(0), want);
                Check.due(what + ": its ring", x.stages(0, 1), ring);
                Check.due(what + ": its size", x.stages(0, 2), size);
            }
        }
    }

    private static void stood(WordTerminator x, int... rings) {
        int[] measures = {2, 1, 1};
        for (int k = 0; k < rings.length; k++) {
            int ring = rings[k];
            Check.due("ring of " + k, x.stages(k, 1), ring);
            Check.due("size of " + k, x.stages(k, 2), new int[] {1, 3, 2}[ring]);
            Check.due("bits of " + k, x.stages(k, 0), 1 << ring);
            Check.due("as the first, " + k, x.stages(k, 3), 1 << ring);
            Check.due("measure by " + k, x.measure(k), measures[ring]);
            Check.due("rule " + ring + " is removed by", x.info(ring, 1), k);
        }
    }

    // "are laid in the other order": RING, SIZE and ENTRIES go with the stage.
    private static void swapOfUnlikeRingsAndSizes() {
        WordTerminator x = Check.withRules("aa>a", "bb>b", "cc>c");
        Check.word(x, "abc");
        x.enter(0, 0, 0, 2);
        Check.due("NATURAL", x.stage(), 1);
        for (int ring = 1; ring <= 2; ring++) {
            x.ring(ring);
            x.size(4 - ring);
            for (int sign = 0; sign < 3; sign++) {
                Check.matrix(x, sign, 3, 0, -1, -1, -1, 0, -1, -1, -1, 0);
            }
            fill(x, ring, 4 - ring, 1);
            Check.due("ring " + ring, x.stage(), 1 << ring);
        }
        stood(x, 0, 1, 2);
        Check.due("swap(0)", x.swap(0), 2);
        stood(x, 1, 0, 2);
        Check.due("swap(1)", x.swap(1), 4);
        stood(x, 1, 2, 0);
        Check.due("swap(0)", x.swap(0), 4);
        stood(x, 2, 1, 0);
        Check.due("back", x.back(), 2);
        Check.due("aa>a is there again", x.count(1), 1);
        stood(x, 2, 1);
    }

    private static WordTerminator told(int signs, int ring, int size, String... rules) {
        WordTerminator x = new WordTerminator();
        x.signs(signs);
        for (String text : rules) {
            Check.rule(x, text);
        }
        x.ring(ring);
        x.size(size);
        return x;
    }

    // "the TRY with the least number by which a STAGE can be laid", found by laying stages by hand.
    private static void searchedByHand(int signs, int size, int b, String... rules) {
        for (int ring = 0; ring <= 2; ring++) {
            int tries = (int) Math.pow(b + 1, signs * size * size);
            int least = NONE;
            for (int number = 0; number < tries && least == NONE; number++) {
                WordTerminator x = told(signs, ring, size, rules);
                tellTry(x, number, signs, size, b, ring);
                least = x.stage() > 0 ? number : NONE;
            }
            String what = String.join(" ", rules) + ", ring " + ring + ", SIZE " + size + ", B " + b;
            WordTerminator found = told(signs, ring, size, rules);
            Check.due(what, found.search(b), least);
            WordTerminator want = told(signs, ring, size, rules);
            if (least != NONE) {
                tellTry(want, least, signs, size, b, ring);
            }
            for (int e = 0; e < signs * 9; e++) {
                Check.due(what + ", entry " + e, found.entry(e / 9, e / 3 % 3, e % 3), want.entry(e / 9, e / 3 % 3, e % 3));
            }
        }
    }

    private static void tellTry(WordTerminator x, int number, int signs, int size, int b, int ring) {
        int rest = number;
        int each = size * size;
        for (int place = signs * each - 1; place >= 0; place--) {
            int digit = rest % (b + 1);
            rest /= b + 1;
            x.enter(place / each, place % each / size, place % each % size, ring == 0 ? digit : digit - 1);
        }
    }

    private static void searchFindsTheFirstTry() {
        searchedByHand(1, 1, 9, "aaa>a");
        searchedByHand(1, 2, 2, "aa>a");
        searchedByHand(1, 2, 3, "aaa=aa", "aa>a");
        searchedByHand(1, 3, 1, "aa>a");
        searchedByHand(2, 1, 5, "ab>ba");
        searchedByHand(2, 1, 7, "a>bb", "b=b");
        searchedByHand(2, 2, 1, "ab>b", "a=a");
        searchedByHand(2, 2, 1, "aa>aba");
        searchedByHand(3, 1, 3, "a>b", "b>cc");
        searchedByHand(4, 1, 2, "d>c", "c=b", "b=a");
    }

    // a over b is found first, then b alone; digits 2 1, and 1 2, to the base 4.
    private static void autoByEachRing() {
        for (int ring = 0; ring <= 2; ring++) {
            WordTerminator x = told(2, ring, 1, "a>b", "b>");
            Check.due("search, ring " + ring, x.search(3), 9);
            Check.due("auto, ring " + ring, x.auto(3), 2);
            int one = ring == 0 ? 1 : 0;
            for (int k = 0; k <= 1; k++) {
                Check.due("bits of " + k, x.stages(k, 0), 1 << k);
                Check.due("ring of " + k, x.stages(k, 1), ring);
                Check.due("a of " + k, x.kept(k, 0, 0, 0), k == 0 ? one + 1 : one);
                Check.due("b of " + k, x.kept(k, 1, 0, 0), k == 0 ? one : one + 1);
            }
            Check.due("a as it is", x.entry(0, 0, 0), one);
            Check.due("b as it is", x.entry(1, 0, 0), one + 1);
            Check.due("ends", x.ends(), 1);
        }
    }

    // "it keeps RING, SIZE and ENTRIES as they are".
    private static void stagesKeepWhileEntriesChange() {
        WordTerminator x = Check.withRules("aa>a", "b>");
        x.enter(0, 0, 0, 7);
        Check.due("stage", x.stage(), 1);
        x.sheet(0, 0, 1);
        x.lay(0, 0, 0, 9);
        Check.due("read", x.read(0, 0), 1);
        Check.due("kept behind read", x.kept(0, 0, 0, 0), 7);
        Check.due("search", x.search(2), 16);
        Check.due("told by it", x.entry(0, 0, 0), 1);
        Check.due("kept behind search", x.kept(0, 0, 0, 0), 7);
        Check.due("auto", x.auto(3), 1);
        Check.due("kept behind auto", x.kept(0, 0, 0, 0), 7);
        Check.due("kept by the new one", x.kept(1, 1, 0, 0), 2);
    }

    // Only type, wipe, rule and word are told to change THE TEXT.
    private static void textOutlastsOtherActs() {
        WordTerminator x = Check.withRules("a>b", "b>c");
        Check.word(x, "abab");
        Check.type(x, "cab");
        x.step();
        x.run(2);
        x.auto(2);
        x.swap(0);
        x.back();
        x.back();
        x.search(2);
        x.stage();
        x.back();
        x.drop(1);
        x.ring(1);
        x.size(2);
        x.enter(0, 0, 0, 3);
        x.sheet(0, 0, 9);
        x.write(0);
        x.read(0, 0);
        x.copy(0, 0, 0, 1, 3);
        x.lose(0);
        x.digest();
        Check.due("bytes", x.count(6), 3);
        Check.due("as a word", x.fault(1), NONE);
        Check.due("word", x.word(), 3);
        Check.holds("it is the one that was typed", Check.wordOf(x).equals("cab"));
    }

    private static void sheetsTouchNothingElse() {
        WordTerminator x = new WordTerminator();
        States.full(x);
        long before = x.digest();
        Check.due("write", x.write(2), 24);
        Check.due("write to a row of the same form", x.write(3), 24);
        Check.due("copy", x.copy(0, 0, 3, 30, 30), 1);
        Check.due("lay", x.lay(0, 0, 5, 5), 1);
        Check.due("get", x.get(0, 0, 5), 5);
        Check.due("sheet", x.sheet(1, 2, 7), 7);
        Check.due("lose", x.lose(2), 60);
        Check.due("all but sheets is as it was", x.digest(), before);
        Check.due("ring", x.ring(2), 2);
        Check.due("size", x.size(3), 3);
        Check.due("an entry beyond the digest", x.entry(3, 2, 2), 999);
    }

    private static void stepsAndStagesLeaveEachOther() {
        WordTerminator x = Check.withRules("a>b", "b>c");
        Check.word(x, "aab");
        Check.due("run", x.run(3), 3);
        Check.due("auto", x.auto(2), 2);
        Check.due("uses of a", x.info(0, 2), 2);
        Check.due("uses of b", x.info(1, 2), 1);
        Check.due("steps", x.count(5), 3);
        Check.holds("the word", Check.wordOf(x).equals("cbb"));
        Check.due("run by removed rules", x.run(40), 2);
        Check.due("stages", x.count(2), 2);
        Check.due("not removed", x.count(1), 0);
        Check.due("back", x.back(), 1);
        Check.due("uses of b", x.info(1, 2), 3);
        Check.due("steps", x.count(5), 5);
    }
}
