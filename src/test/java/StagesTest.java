// Promises 17 to 24: stage, back, stages, kept, swap, ends, search, auto.
public final class StagesTest {
    public static void main(String[] args) {
        stage();
        stageRefused();
        back();
        stages();
        kept();
        swap();
        swapRefused();
        swapAboveOthers();
        eightStages();
        ends();
        search();
        searchOtherRings();
        searchLargerSizes();
        searchRefused();
        searchWithStages();
        auto();
        autoRefused();
        Check.end();
    }

    private static void numbers(WordTerminator x, int... ofSigns) {
        for (int sign = 0; sign < ofSigns.length; sign++) {
            x.enter(sign, 0, 0, ofSigns[sign]);
        }
    }

    private static WordTerminator twoStages() {
        WordTerminator x = Check.withRules("a>b", "b=c");
        numbers(x, 2, 1, 1);
        Check.due("first stage", x.stage(), 1);
        numbers(x, 2, 2, 1);
        Check.due("second stage", x.stage(), 2);
        return x;
    }

    private static void stage() {
        WordTerminator x = twoStages();
        Check.due("removed by 0", x.info(0, 1), 0);
        Check.due("removed by 1", x.info(1, 1), 1);
        Check.due("stages", x.count(2), 2);
        Check.due("not removed", x.count(1), 0);
        Check.due("rules", x.count(0), 2);
        Check.due("stage() with none left", x.stage(), -3);

        WordTerminator y = Check.withRules("a=b", "a>bb", "c=c");
        numbers(y, 2, 1, 1);
        Check.due("all that fall, free ones too", y.stage(), 3);
        Check.due("strict ones left", y.count(3), 0);
        Check.due("left", y.count(1), 1);
        Check.due("none falls", y.stage(), -3);
        Check.due("stages", y.count(2), 1);
    }

    private static void stageRefused() {
        WordTerminator x = Check.withRules("a>b", "b>c");
        numbers(x, 3, 1, 2);
        Check.due("one rises", x.stage(), -3);
        numbers(x, 1, 1, 1);
        Check.due("none falls", x.stage(), -3);
        numbers(x, 2, 1, 0);
        Check.due("not sound", x.stage(), -3);
        Check.due("no stage", x.count(2), 0);
        numbers(x, 2, 1, 1);
        x.size(2);
        x.enter(2, 1, 1, 0);
        Check.due("the last entry is not sound", x.stage(), -3);
        x.size(1);
        Check.due("it does not count", x.stage(), 1);
        numbers(x, 0, 2, 1);
        Check.due("not sound, by a sign of removed rules alone", x.stage(), -3);
        numbers(x, 1, 2, 1);
        Check.due("removed ones may rise", x.info(0, 3), 0);
        Check.due("stage with one removed that rises", x.stage(), 2);
        Check.due("no rules", new WordTerminator().stage(), -3);
    }

    private static void back() {
        WordTerminator x = twoStages();
        Check.due("back()", x.back(), 1);
        Check.due("there again", x.info(1, 1), -1);
        Check.due("removed still", x.info(0, 1), 0);
        Check.due("not removed", x.count(1), 1);
        Check.due("entries stay", x.entry(1, 0, 0), 2);
        Check.due("stage() again", x.stage(), 2);
        Check.due("back()", x.back(), 1);
        Check.due("back()", x.back(), 0);
        Check.due("back() of none", x.back(), -3);
        Check.due("there again", x.info(0, 1), -1);
        Check.due("by the entries that stay", x.stage(), 2);
        Check.due("stages(0, 0)", x.stages(0, 0), 2);
    }

    private static void stages() {
        WordTerminator x = twoStages();
        Check.due("removed by 0", x.stages(0, 0), 1);
        Check.due("removed by 1", x.stages(1, 0), 2);
        Check.due("ring", x.stages(0, 1), 0);
        Check.due("size", x.stages(0, 2), 1);
        Check.due("first", x.stages(0, 3), 1);
        Check.due("1 as the first", x.stages(1, 3), 2);
        Check.due("stages(2, 0)", x.stages(2, 0), -2);
        Check.due("stages(-1, 0)", x.stages(-1, 0), -2);
        Check.due("stages(0, 4)", x.stages(0, 4), -2);
        Check.due("stages(0, -1)", x.stages(0, -1), -2);
        x.back();
        numbers(x, 1, 2, 1);
        x.ring(2);
        x.size(3);
        x.enter(1, 1, 1, 4);
        x.enter(1, 2, 2, 4);
        Check.due("stage by ARCTIC", x.stage(), 2);
        Check.due("ring", x.stages(1, 1), 2);
        Check.due("size", x.stages(1, 2), 3);
        Check.due("it could not be the first", x.stages(1, 3), -1);
        x.ring(1);
        x.size(2);
        Check.due("ring stays", x.stages(1, 1), 2);
        Check.due("size stays", x.stages(1, 2), 3);

        WordTerminator y = Check.withRules("a>b", "b>c");
        numbers(y, 2, 1, 1);
        y.stage();
        numbers(y, 3, 2, 1);
        Check.due("second stage", y.stage(), 2);
        Check.due("as the first it removes more", y.stages(1, 3), 3);
    }

    private static void kept() {
        WordTerminator x = twoStages();
        numbers(x, 7, 8, 9);
        x.enter(2, 1, 0, 6);
        Check.due("kept(0, 1)", x.kept(0, 1, 0, 0), 1);
        Check.due("kept(1, 1)", x.kept(1, 1, 0, 0), 2);
        Check.due("kept beyond SIZE", x.kept(1, 2, 1, 0), -1);
        Check.due("kept beyond SIZE, alike", x.kept(1, 2, 2, 2), 1);
        Check.due("kept(2, ..)", x.kept(2, 0, 0, 0), -2);
        Check.due("kept(-1, ..)", x.kept(-1, 0, 0, 0), -2);
        Check.due("sign 3", x.kept(0, 3, 0, 0), -2);
        Check.due("sign -1", x.kept(0, -1, 0, 0), -2);
        Check.due("row 3", x.kept(0, 0, 3, 0), -2);
        Check.due("row -1", x.kept(0, 0, -1, 0), -2);
        Check.due("column 3", x.kept(0, 0, 0, 3), -2);
        Check.due("column -1", x.kept(0, 0, 0, -1), -2);
    }

    private static void swap() {
        WordTerminator x = twoStages();
        Check.due("swap(1)", x.swap(1), -2);
        Check.due("swap(-1)", x.swap(-1), -2);
        Check.due("swap(greatest)", x.swap(Integer.MAX_VALUE), -2);
        Check.due("swap(0)", x.swap(0), 2);
        Check.due("what 0 removes", x.stages(0, 0), 2);
        Check.due("what 1 removes", x.stages(1, 0), 1);
        Check.due("rule 0 is removed by 1", x.info(0, 1), 1);
        Check.due("kept moves too", x.kept(0, 1, 0, 0), 2);
        Check.due("kept moves too", x.kept(1, 1, 0, 0), 1);
        Check.due("back()", x.back(), 1);
        Check.due("the one that is the last now", x.info(0, 1), -1);
        Check.due("swap(0) of one", x.swap(0), -2);
    }

    private static void swapRefused() {
        WordTerminator x = Check.withRules("a>b", "b>c");
        numbers(x, 2, 1, 1);
        x.stage();
        numbers(x, 1, 2, 1);
        x.stage();
        Check.due("the second can't be laid first", x.swap(0), -3);
        Check.due("0 is as it was", x.stages(0, 0), 1);
        Check.due("1 is as it was", x.stages(1, 0), 2);
        x.back();
        numbers(x, 3, 2, 1);
        Check.due("stage", x.stage(), 2);
        Check.due("the first would remove nothing", x.swap(0), -3);
        Check.due("0 is as it was", x.kept(0, 0, 0, 0), 2);
        Check.due("1 is as it was", x.stages(1, 0), 2);
    }

    private static void swapAboveOthers() {
        WordTerminator x = new WordTerminator();
        x.signs(4);
        String[] texts = {"a>b", "b>c", "c>d", "ab=ba", "dd=da"};
        for (int i = 0; i < texts.length; i++) {
            Check.due("rule", Check.rule(x, texts[i]), i);
        }
        Check.due("drop dd=da", x.drop(4), 4);
        x.size(2);
        Check.matrix(x, 0, 2, 2, 1, 0, 1);
        Check.matrix(x, 1, 2, 1, 1, 0, 1);
        Check.matrix(x, 2, 2, 1, 1, 0, 1);
        Check.matrix(x, 3, 2, 1, 1, 0, 1);
        Check.due("ab is (2, 3), ba is (2, 2)", x.stage(), 8);
        x.size(1);
        numbers(x, 3, 2, 1, 1);
        Check.due("second", x.stage(), 3);
        numbers(x, 3, 2, 2, 1);
        Check.due("third", x.stage(), 4);
        Check.due("swap(1)", x.swap(1), 5);
        Check.due("what 1 removes", x.stages(1, 0), 5);
        Check.due("what 2 removes", x.stages(2, 0), 2);
        Check.due("rule 0", x.info(0, 1), 1);
        Check.due("rule 1", x.info(1, 1), 2);
        Check.due("rule 2", x.info(2, 1), 1);
        Check.due("rule 3", x.info(3, 1), 0);
        Check.due("1 as the first", x.stages(1, 3), 5);
        Check.due("swap(1) again", x.swap(1), 3);
        Check.due("what 2 removes", x.stages(2, 0), 4);
        Check.due("swap(0)", x.swap(0), 3);
        Check.due("rule 3 is removed by 1", x.info(3, 1), 1);
        Check.due("the third stays", x.stages(2, 0), 4);
    }

    private static void eightStages() {
        WordTerminator x = new WordTerminator();
        x.signs(4);
        String[] texts = {"a>b", "b>c", "c>d", "d>", "ab>ba", "ac=ca", "bc=cb", "ad=da"};
        for (int i = 0; i < texts.length; i++) {
            Check.due("rule", Check.rule(x, texts[i]), i);
        }
        for (int i = 0; i < 4; i++) {
            numbers(x, 1, 1, 1, 1);
            x.enter(i, 0, 0, 2);
            Check.due("stage " + i, x.stage(), 1 << i);
        }
        x.size(2);
        for (int i = 4; i < 8; i++) {
            for (int sign = 0; sign < 4; sign++) {
                Check.matrix(x, sign, 2, 1, 0, 0, 1);
            }
            x.enter(texts[i].charAt(0) - 'a', 0, 0, 2);
            x.enter(texts[i].charAt(1) - 'a', 0, 1, 1);
            Check.due("strict ones left", x.count(3), i == 4 ? 1 : 0);
            Check.due("stage " + i, x.stage(), 1 << i);
            Check.due("removed by", x.info(i, 1), i);
        }
        Check.due("stages", x.count(2), 8);
        Check.due("no more", x.stage(), -3);
        Check.due("no more to find", x.auto(1), -3);
        x.size(1);
        Check.due("no more to find", x.auto(1), 0);
        for (int k = 7; k >= 0; k--) {
            Check.due("back", x.back(), k);
        }
        Check.due("strict ones again", x.count(3), 5);
        Check.due("a word with eight rules", Check.word(x, "ad"), 2);
        Check.due("run", x.run(40), 5);
    }

    private static void ends() {
        Check.due("no rules", new WordTerminator().ends(), 1);
        WordTerminator x = Check.withRules("a=aa", "c=c");
        Check.due("free ones alone", x.ends(), 1);
        Check.rule(x, "b>a");
        Check.due("a strict one", x.ends(), 0);
        numbers(x, 1, 2, 1);
        Check.due("stage", x.stage(), 4);
        Check.due("none left", x.ends(), 1);
        x.back();
        Check.due("there again", x.ends(), 0);
    }

    private static void search() {
        WordTerminator x = Check.withRules("a>b");
        x.drop(0);
        x.signs(2);
        Check.rule(x, "a>b");
        x.enter(1, 0, 1, 77);
        Check.due("search(1)", x.search(1), -1);
        Check.due("entries stay", x.entry(0, 0, 0), 1);
        Check.due("2 and 1", x.search(2), 7);
        Check.due("entry of a", x.entry(0, 0, 0), 2);
        Check.due("entry of b", x.entry(1, 0, 0), 1);
        Check.due("others stay", x.entry(1, 0, 1), 77);
        Check.due("it is told, not laid", x.count(2), 0);
        Check.due("to the base 10", x.search(9), 21);
        numbers(x, 9, 9);
        Check.due("what is told does not matter", x.search(9), 21);
        Check.due("stage", x.stage(), 1);
        WordTerminator y = new WordTerminator();
        Check.due("no rules", y.search(9), -1);
        Check.rule(y, "a>a");
        Check.due("never", y.search(9), -1);
        Check.due("entries stay", y.entry(0, 0, 0), 1);
    }

    private static void searchOtherRings() {
        WordTerminator x = new WordTerminator();
        x.signs(2);
        Check.rule(x, "b>a");
        x.ring(2);
        Check.due("ARCTIC, 0 and 1", x.search(2), 5);
        Check.due("entry of a", x.entry(0, 0, 0), 0);
        Check.due("entry of b", x.entry(1, 0, 0), 1);
        x.ring(1);
        Check.due("TROPIC, NONE alone is not enough", x.search(1), -1);
        Check.due("TROPIC, 0 and 1", x.search(3), 6);
        Check.due("entry of b", x.entry(1, 0, 0), 1);
    }

    private static void searchLargerSizes() {
        WordTerminator x = new WordTerminator();
        x.signs(1);
        Check.rule(x, "aa>a");
        x.size(2);
        Check.due("1 1, 0 1", x.search(1), 13);
        Check.due("0, 0", x.entry(0, 0, 0), 1);
        Check.due("0, 1", x.entry(0, 0, 1), 1);
        Check.due("1, 0 is told 0, not NONE", x.entry(0, 1, 0), 0);
        Check.due("1, 1", x.entry(0, 1, 1), 1);
        Check.due("0, 2 stays", x.entry(0, 0, 2), -1);
        x.ring(2);
        Check.due("ARCTIC: 0 0, 1 1", x.search(2), 27 + 9 + 6 + 2);
        Check.due("0, 0", x.entry(0, 0, 0), 0);
        Check.due("1, 0", x.entry(0, 1, 0), 1);
        Check.due("0, 2 stays", x.entry(0, 0, 2), -1);
        x.ring(0);
        x.size(3);
        Check.due("1 0 1, 0 0 0, 0 0 1", x.search(1), 256 + 64 + 1);
        Check.due("stage", x.stage(), 1);
    }

    private static void searchRefused() {
        WordTerminator x = Check.withRules("a>b");
        Check.due("search(0)", x.search(0), -2);
        Check.due("search(10)", x.search(10), -2);
        Check.due("1000 tries", x.search(9), 211);
        x.size(2);
        Check.due("4096 tries: 1 1, 0 1; 1 0, 0 1; 1 0, 0 1", x.search(1), 13 * 256 + 9 * 16 + 9);
        Check.due("3 to the twelfth", x.search(2), -3);
        Check.due("search(0) ahead of NOT", x.search(0), -2);
        x.size(3);
        Check.due("2 to the 27th", x.search(1), -3);
        x.size(1);
        x.drop(0);
        x.signs(4);
        Check.due("6561 tries", x.search(8), -1);
        Check.due("10000 tries", x.search(9), -3);
        x.size(3);
        Check.due("10 to the 36th", x.search(9), -3);
        x.signs(1);
        Check.due("512 tries", x.search(1), -1);
        Check.due("3 to the ninth", x.search(2), -3);
    }

    private static void searchWithStages() {
        WordTerminator x = Check.withRules("a>b", "b>c");
        Check.due("2, 1, 1", x.search(2), 22);
        Check.due("stage", x.stage(), 1);
        Check.due("1, 2, 1", x.search(2), 16);
        Check.due("stage", x.stage(), 2);
        Check.due("none left", x.search(2), -1);
    }

    private static void auto() {
        WordTerminator x = Check.withRules("a>b", "b>c");
        Check.due("auto(1)", x.auto(1), 0);
        Check.due("auto(2)", x.auto(2), 2);
        Check.due("stages", x.count(2), 2);
        Check.due("what 0 removes", x.stages(0, 0), 1);
        Check.due("what 1 removes", x.stages(1, 0), 2);
        Check.due("entries of the last", x.entry(0, 0, 0), 1);
        Check.due("entries of the last", x.entry(1, 0, 0), 2);
        Check.due("entries of the first", x.kept(0, 0, 0, 0), 2);
        Check.due("1 could not be the first", x.stages(1, 3), -1);
        Check.due("ends", x.ends(), 1);
        Check.due("auto(2) again", x.auto(2), 0);
        x.back();
        Check.due("those that it laid", x.auto(2), 1);
        Check.due("stages", x.count(2), 2);

        WordTerminator y = Check.withRules("a>b", "b>c", "ab=ba", "c=c");
        Check.due("auto, free ones stay", y.auto(2), 2);
        Check.due("left", y.count(1), 2);
        Check.due("ends", y.ends(), 1);
    }

    private static void autoRefused() {
        WordTerminator x = Check.withRules("a>b");
        Check.due("auto(0)", x.auto(0), -2);
        Check.due("auto(10)", x.auto(10), -2);
        x.size(2);
        Check.due("auto(2)", x.auto(2), -3);
        Check.due("auto(0) ahead of NOT", x.auto(0), -2);
        Check.due("no stage", x.count(2), 0);
        x.size(1);
        Check.due("auto(9)", x.auto(9), 1);
        x.back();
        x.drop(0);
        x.signs(4);
        Check.due("auto(9), 10000 tries", x.auto(9), -3);
        Check.due("auto(8), 6561 tries", x.auto(8), 0);
    }
}
