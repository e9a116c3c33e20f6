// Promise 37: digest, from numbers reckoned by hand.
public final class DigestTest {
    public static void main(String[] args) {
        ofNewObject();
        ofRulesAndStages();
        changesNothing();
        Check.end();
    }

    private static long of(long[]... parts) {
        long h = 17;
        for (long[] part : parts) {
            for (long each : part) {
                h = 31 * h + each;
            }
        }
        return h;
    }

    private static long[] letters(String word) {
        long[] made = new long[25];
        made[0] = word.length();
        for (int k = 0; k < 24; k++) {
            made[k + 1] = k < word.length() ? word.charAt(k) - 'a' : -1;
        }
        return made;
    }

    private static void ofNewObject() {
        long[] counts = {0, 0, 0, 0, 0, 0, 0, 0};
        long[] whole = {0, -1, 1, 1};
        long[] sign = {1, -1, -1, 1};
        long[] measure = {1};
        Check.due("new", new WordTerminator().digest(), of(counts, whole, sign, sign, sign, measure, letters("")));
        WordTerminator x = new WordTerminator();
        x.signs(1);
        Check.due("one sign", x.digest(), of(counts, whole, sign, measure, letters("")));
        x.lose(0);
        Check.due("the latest finding is no part of it", x.digest(), of(counts, whole, sign, measure, letters("")));
    }

    private static void ofRulesAndStages() {
        WordTerminator x = Check.withRules("aa>b", "b=bc");
        x.enter(0, 0, 0, 2);
        Check.due("stage", x.stage(), 1);
        x.ring(2);
        x.size(2);
        x.enter(1, 0, 1, 7);
        Check.word(x, "aaab");
        x.step();
        Check.type(x, "a>d");
        Check.holds("word", Check.wordOf(x).equals("bab"));
        // By ARCTIC aa is 4 NONE, NONE 2; b is 1 7, NONE 1, so that aa>b is not weak;
        // bc is 2 8, NONE 2, so that b=bc is not either.
        long[] counts = {2, 1, 1, 0, 3, 1, 3, 0};
        long[] whole = {2, 1, 1, 1};
        long[] rule0 = {1, 0, 1, 0, 0, 0, 2, 0, 1, 4};
        long[] rule1 = {0, -1, 0, 0, 0, 2, 1, 1, 2, 1};
        long[] signA = {2, -1, -1, 1};
        long[] signB = {1, 7, -1, 1};
        long[] signC = {1, -1, -1, 1};
        long[] stage = {1, 0, 1, 1, 2, 2};
        long[] measure = {4};
        Check.due("rules and a stage", x.digest(),
            of(counts, whole, rule0, rule1, signA, signB, signC, stage, measure, letters("bab")));
    }

    private static void changesNothing() {
        WordTerminator x = Check.withRules("a>b");
        Check.word(x, "ab");
        long first = x.digest();
        Check.due("digest again", x.digest(), first);
        x.get(0, 0, 0);
        x.digest();
        Check.due("nor the latest finding", x.count(8), 1);
    }
}
