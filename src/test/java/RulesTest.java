// Promises 1 to 9: a new object, signs, type, wipe, fault, rule, drop, side, info.
public final class RulesTest {
    public static void main(String[] args) {
        newObject();
        signs();
        type();
        wipe();
        faultOfRules();
        faultOfWords();
        rule();
        drop();
        side();
        infoOfRules();
        infoOfPlaces();
        Check.end();
    }

    private static void newObject() {
        WordTerminator x = new WordTerminator();
        for (int what = 0; what <= 8; what++) {
            Check.due("new: count " + what, x.count(what), 0);
        }
        for (int sign = 0; sign < 3; sign++) {
            for (int row = 0; row < 3; row++) {
                for (int column = 0; column < 3; column++) {
                    Check.due("new: entry", x.entry(sign, row, column), row == column ? 1 : -1);
                }
            }
        }
        Check.due("new: entry of a fourth sign", x.entry(3, 0, 0), -2);
        for (int s = 0; s < 4; s++) {
            Check.due("new: lose", x.lose(s), -11);
        }
        Check.due("new: sound", x.sound(), 1);
        Check.due("new: ends", x.ends(), 1);
        Check.due("new: letter(-1)", x.letter(-1), 0);
        Check.due("new: measure(-1)", x.measure(-1), 1);
        Check.due("new: signs", x.signs(3), 3);
        Check.due("new: ring", x.ring(0), 0);
        Check.due("new: size", x.size(1), 1);
        Check.due("new: fault(0)", x.fault(0), 0);
        Check.due("new: fault(1)", x.fault(1), -1);
    }

    private static void signs() {
        WordTerminator x = new WordTerminator();
        Check.due("signs(0)", x.signs(0), -2);
        Check.due("signs(5)", x.signs(5), -2);
        Check.due("signs(-1)", x.signs(-1), -2);
        Check.due("signs(1)", x.signs(1), 3);
        Check.due("entry(1, ..) with one sign", x.entry(1, 0, 0), -2);
        Check.type(x, "b");
        Check.due("b as a word with one sign", x.fault(1), 0);
        Check.due("signs(4) with a text", x.signs(4), 1);
        Check.due("b as a word with four signs", x.fault(1), -1);
        Check.due("entry(3, 2, 2)", x.entry(3, 2, 2), 1);
        Check.due("word b", x.word(), 1);
        Check.due("signs with a word", x.signs(4), -3);
        Check.due("signs(5) with a word", x.signs(5), -2);
        Check.due("empty word", x.word(), 0);
        Check.rule(x, "d>");
        Check.due("signs with a rule", x.signs(3), -3);
        Check.due("signs(0) with a rule", x.signs(0), -2);
        Check.due("drop", x.drop(0), 0);
        x.enter(3, 0, 0, 7);
        Check.due("signs(2)", x.signs(2), 4);
        Check.due("signs(4) again", x.signs(4), 2);
        Check.due("an entry outlasts the signs", x.entry(3, 0, 0), 7);
    }

    private static void type() {
        WordTerminator x = new WordTerminator();
        Check.due("type(-1)", x.type(-1), -2);
        Check.due("type(256)", x.type(256), -2);
        for (int k = 1; k <= 20; k++) {
            Check.due("type", x.type(k % 2 == 0 ? 0 : 255), k);
        }
        Check.due("type of a full text", x.type(97), -4);
        Check.due("type(256) of a full text", x.type(256), -2);
        Check.due("count(6)", x.count(6), 20);
        Check.due("wipe", x.wipe(), 20);
        Check.due("type", x.type(97), 1);
    }

    private static void wipe() {
        WordTerminator x = new WordTerminator();
        Check.due("wipe of nothing", x.wipe(), 0);
        Check.type(x, "ab>");
        Check.due("wipe", x.wipe(), 3);
        Check.due("count(6)", x.count(6), 0);
        Check.due("fault(0)", x.fault(0), 0);
    }

    private static void faultAsRule(String text, int want) {
        WordTerminator x = new WordTerminator();
        Check.type(x, text);
        Check.due("fault(0) of " + text, x.fault(0), want);
        Check.due("rule() of " + text, x.rule(), want == -1 ? 0 : -1000 - want);
        Check.due("text behind rule() of " + text, x.count(6), want == -1 ? 0 : text.length());
    }

    private static void faultOfRules() {
        faultAsRule("", 0);
        faultAsRule("a", 1);
        faultAsRule("abcabc", 6);
        faultAsRule("abcabca", 6);
        faultAsRule("abcabc>", -1);
        faultAsRule(">a", 0);
        faultAsRule("=", 0);
        faultAsRule("a>", -1);
        faultAsRule("a=", -1);
        faultAsRule("a>>", 2);
        faultAsRule("a>=", 2);
        faultAsRule("a=b>", 3);
        faultAsRule("a>abcabc", -1);
        faultAsRule("a>abcabca", 8);
        faultAsRule("abcabc=abcabc", -1);
        faultAsRule("d>a", 0);
        faultAsRule("ad>a", 1);
        faultAsRule("a>ad", 3);
        faultAsRule("a<b", 1);
        faultAsRule("A>b", 0);
        faultAsRule("`>b", 0);
        faultAsRule("a > b", 1);
        faultAsRule("a>b\u00e1\u0000", 3);
    }

    private static void faultOfWords() {
        WordTerminator x = new WordTerminator();
        Check.due("fault(2)", x.fault(2), -2);
        Check.due("fault(-1)", x.fault(-1), -2);
        Check.type(x, "abcabcabcabcabcabcab");
        Check.due("fault(1) of 20 signs", x.fault(1), -1);
        x.wipe();
        Check.type(x, "abdd");
        Check.due("fault(1) of abdd", x.fault(1), 2);
        Check.due("word() of abdd", x.word(), -1002);
        Check.due("text stays", x.count(6), 4);
        x.wipe();
        Check.type(x, "=");
        Check.due("fault(1) of =", x.fault(1), 0);
    }

    private static void rule() {
        WordTerminator x = new WordTerminator();
        for (int i = 0; i < 8; i++) {
            Check.due("rule()", Check.rule(x, "aa>a"), i);
        }
        Check.due("rule() of nothing with 8", x.rule(), -4);
        Check.type(x, "aa>a");
        Check.due("rule() with 8", x.rule(), -4);
        x.enter(0, 0, 0, 2);
        Check.due("stage()", x.stage(), 255);
        Check.due("rule() with 8 and a stage", x.rule(), -3);
        Check.due("text stays", x.count(6), 4);
        Check.due("back()", x.back(), 0);
        Check.due("drop(3)", x.drop(3), 7);
        Check.due("rule() again", x.rule(), 7);

        WordTerminator y = Check.withRules("ab>ba", "c=c");
        y.enter(0, 0, 0, 2);
        Check.due("rules are strict", y.info(0, 0), 1);
        Check.due("rules are free", y.info(1, 0), 0);
        Check.word(y, "cc");
        y.run(5);
        Check.due("uses", y.info(1, 2), 5);
        Check.rule(y, "a>");
        Check.due("a new rule has no uses", y.info(2, 2), 0);
        Check.due("others keep theirs", y.info(1, 2), 5);
        Check.due("fault 0 with a stage", y.stage(), 4);
        Check.due("rule() of nothing with a stage", y.rule(), -3);
    }

    private static void drop() {
        WordTerminator x = Check.withRules("a>", "b=bc", "cc>c");
        Check.word(x, "ccab");
        x.run(3);
        Check.due("uses of a", x.info(0, 2), 1);
        Check.due("uses of b", x.info(1, 2), 2);
        Check.due("drop(-1)", x.drop(-1), -2);
        Check.due("drop(3)", x.drop(3), -2);
        Check.due("drop(0)", x.drop(0), 2);
        Check.due("left of what is 0 now", x.side(0, 0, 0), 1);
        Check.due("uses move too", x.info(0, 2), 2);
        Check.due("strict moves too", x.info(1, 0), 1);
        Check.due("side of what is 1 now", x.side(1, 0, -1), 2);
        Check.due("info(2, 0)", x.info(2, 0), -2);
        Check.due("steps stay", x.count(5), 3);
        Check.rule(x, "c=");
        Check.due("a rule in the room of the dropped one", x.info(2, 2), 0);
        Check.due("its left", x.side(2, 0, 0), 2);
        Check.due("its right", x.side(2, 1, -1), 0);

        WordTerminator y = Check.withRules("aa>a");
        y.enter(0, 0, 0, 2);
        Check.due("stage()", y.stage(), 1);
        Check.due("drop(0) with a stage", y.drop(0), -3);
        Check.due("drop(1) with a stage", y.drop(1), -2);
        y.back();
        Check.due("drop(0)", y.drop(0), 0);
        Check.due("drop(0) of none", y.drop(0), -2);
    }

    private static void side() {
        WordTerminator x = Check.withRules("abcabc>", "c=ba");
        Check.due("left, how many", x.side(0, 0, -1), 6);
        Check.due("right, how many", x.side(0, 1, -1), 0);
        Check.due("left, 5", x.side(0, 0, 5), 2);
        Check.due("right, 0", x.side(0, 1, 0), -1);
        Check.due("left of 1, 0", x.side(1, 0, 0), 2);
        Check.due("left of 1, 1", x.side(1, 0, 1), -1);
        Check.due("right of 1, 0", x.side(1, 1, 0), 1);
        Check.due("right of 1, 1", x.side(1, 1, 1), 0);
        Check.due("right of 1, 5", x.side(1, 1, 5), -1);
        Check.due("k = 6", x.side(0, 0, 6), -2);
        Check.due("k = -2", x.side(0, 0, -2), -2);
        Check.due("s = 2", x.side(0, 2, 0), -2);
        Check.due("s = -1", x.side(0, -1, 0), -2);
        Check.due("i = 2", x.side(2, 0, 0), -2);
        Check.due("i = -1", x.side(-1, 0, 0), -2);
    }

    private static void infoOfRules() {
        WordTerminator x = Check.withRules("aa>a", "b=b", "b=bb");
        Check.due("info(0, -1)", x.info(0, -1), -2);
        Check.due("info(0, 6)", x.info(0, 6), -2);
        Check.due("info(3, 0)", x.info(3, 0), -2);
        Check.due("info(-1, 0)", x.info(-1, 0), -2);
        Check.due("not removed", x.info(0, 1), -1);
        x.enter(0, 0, 0, 3);
        Check.due("weak: 9 and 3", x.info(0, 3), 1);
        Check.due("falls: 9 and 3", x.info(0, 4), 1);
        Check.due("weak: 1 and 1", x.info(1, 3), 1);
        Check.due("does not fall: 1 and 1", x.info(1, 4), 0);
        Check.due("stage()", x.stage(), 1);
        Check.due("removed by stage 0", x.info(0, 1), 0);
        Check.due("others are not", x.info(1, 1), -1);
        Check.due("a removed rule is weak still", x.info(0, 3), 1);
        x.enter(0, 0, 0, 0);
        Check.due("weak is not sound", x.info(0, 3), 1);
        Check.due("0 and 0 does not fall", x.info(0, 4), 0);
        x.enter(1, 0, 0, 2);
        Check.due("2 and 4 is not weak", x.info(2, 3), 0);
    }

    private static void infoOfPlaces() {
        WordTerminator x = Check.withRules("aa>b", "aba>", "abcabc>a");
        Check.due("no places in no word", x.info(0, 5), 0);
        Check.word(x, "aaaababa");
        Check.due("places of aa, one in another", x.info(0, 5), 3);
        Check.due("places of aba, one in another", x.info(1, 5), 2);
        Check.due("places of a left that is nowhere", x.info(2, 5), 0);
        Check.word(x, "abcabc");
        Check.due("the whole word", x.info(2, 5), 1);
        Check.word(x, "abcab");
        Check.due("the word is too short", x.info(2, 5), 0);
    }
}
