// Promises 10 to 16: ring, size, enter, entry, read, sound, value.
public final class ReadingTest {
    public static void main(String[] args) {
        ring();
        size();
        enter();
        read();
        readStops();
        sound();
        valueNatural();
        valueOver();
        valueTropic();
        valueArctic();
        weakAndFalls();
        Check.end();
    }

    private static void ring() {
        WordTerminator x = new WordTerminator();
        Check.due("ring(-1)", x.ring(-1), -2);
        Check.due("ring(3)", x.ring(3), -2);
        Check.due("ring(2)", x.ring(2), 0);
        Check.due("ring(1)", x.ring(1), 2);
        Check.due("measure of no signs by TROPIC", x.measure(-1), 0);
        Check.due("ring(0)", x.ring(0), 1);
        Check.due("measure of no signs by NATURAL", x.measure(-1), 1);
    }

    private static void size() {
        WordTerminator x = new WordTerminator();
        Check.due("size(0)", x.size(0), -2);
        Check.due("size(4)", x.size(4), -2);
        Check.due("size(3)", x.size(3), 1);
        Check.due("size(2)", x.size(2), 3);
        Check.due("measure of no signs, row 0, column 1", x.measure(-1), 0);
    }

    private static void enter() {
        WordTerminator x = new WordTerminator();
        Check.due("enter", x.enter(0, 0, 0, 999), 1);
        Check.due("enter", x.enter(0, 0, 0, 0), 999);
        Check.due("enter beyond SIZE", x.enter(2, 2, 0, 5), -1);
        Check.due("entry", x.entry(2, 2, 0), 5);
        Check.due("entry, the other way", x.entry(2, 0, 2), -1);
        Check.due("enter NONE", x.enter(2, 2, 0, -1), 5);
        Check.due("enter -2", x.enter(0, 0, 0, -2), -2);
        Check.due("enter 1000", x.enter(0, 0, 0, 1000), -2);
        Check.due("enter sign 3", x.enter(3, 0, 0, 1), -2);
        Check.due("enter sign -1", x.enter(-1, 0, 0, 1), -2);
        Check.due("enter row 3", x.enter(0, 3, 0, 1), -2);
        Check.due("enter row -1", x.enter(0, -1, 0, 1), -2);
        Check.due("enter column 3", x.enter(0, 0, 3, 1), -2);
        Check.due("enter column -1", x.enter(0, 0, -1, 1), -2);
        Check.due("entry is as it was", x.entry(0, 0, 0), 0);
        Check.due("entry sign 3", x.entry(3, 0, 0), -2);
        Check.due("entry sign -1", x.entry(-1, 0, 0), -2);
        Check.due("entry row 3", x.entry(0, 3, 0), -2);
        Check.due("entry row -1", x.entry(0, -1, 0), -2);
        Check.due("entry column 3", x.entry(0, 0, 3), -2);
        Check.due("entry column -1", x.entry(0, 0, -1), -2);
    }

    private static void read() {
        WordTerminator x = new WordTerminator();
        x.size(2);
        x.sheet(3, 1, 6);
        for (int i = 0; i < 6; i++) {
            x.lay(3, 1, i, 10 + i);
        }
        Check.due("read", x.read(1, 3), 4);
        Check.due("0, 0", x.entry(1, 0, 0), 10);
        Check.due("0, 1", x.entry(1, 0, 1), 11);
        Check.due("0, 2 does not count", x.entry(1, 0, 2), -1);
        Check.due("1, 0", x.entry(1, 1, 0), 12);
        Check.due("1, 1", x.entry(1, 1, 1), 13);
        Check.due("2, 0 does not count", x.entry(1, 2, 0), -1);
        Check.due("other signs stay", x.entry(0, 0, 0), 1);
        x.size(3);
        Check.due("read all there are", x.read(2, 3), 6);
        Check.due("1, 2", x.entry(2, 1, 2), 15);
        Check.due("2, 0 stays", x.entry(2, 2, 0), -1);
    }

    private static void readStops() {
        WordTerminator x = new WordTerminator();
        x.size(2);
        x.sheet(0, 2, 4);
        x.lay(0, 2, 0, 999);
        x.lay(0, 2, 1, -1);
        x.lay(0, 2, 2, 1000);
        Check.due("read up to 1000", x.read(0, 0), 2);
        Check.due("0, 0", x.entry(0, 0, 0), 999);
        Check.due("0, 1", x.entry(0, 0, 1), -1);
        Check.due("1, 0 stays", x.entry(0, 1, 0), -1);
        Check.due("1, 1 stays", x.entry(0, 1, 1), 1);
        x.lay(0, 2, 0, -2);
        Check.due("read nothing", x.read(0, 0), 0);
        x.sheet(0, 0, 0);
        Check.due("read of no items", x.read(0, 0), 0);
        Check.due("read(3, 0)", x.read(3, 0), -2);
        Check.due("read(-1, 0)", x.read(-1, 0), -2);
        Check.due("read(0, 4)", x.read(0, 4), -2);
        Check.due("read(0, -1)", x.read(0, -1), -2);
        Check.due("BAD is no finding", x.count(8), 0);
        Check.due("read(3, 1): BAD ahead of NULL", x.read(3, 1), -2);
        Check.due("read(0, 1)", x.read(0, 1), -11);
        Check.due("finding", x.count(8), 1);
    }

    private static void sound() {
        WordTerminator x = new WordTerminator();
        x.enter(2, 0, 0, 0);
        Check.due("0 by NATURAL", x.sound(), 0);
        x.ring(1);
        Check.due("0 by TROPIC", x.sound(), 1);
        x.ring(2);
        Check.due("0 by ARCTIC", x.sound(), 1);
        x.enter(2, 0, 0, -1);
        Check.due("NONE by ARCTIC", x.sound(), 0);
        x.ring(1);
        Check.due("NONE by TROPIC", x.sound(), 0);
        x.ring(0);
        Check.due("NONE by NATURAL", x.sound(), 0);
        x.enter(2, 0, 0, 1);
        x.enter(1, 1, 1, -1);
        Check.due("the second row does not count", x.sound(), 1);
        x.size(2);
        Check.due("the last by NATURAL", x.sound(), 0);
        x.ring(2);
        Check.due("the last by ARCTIC", x.sound(), 1);
        x.ring(0);
        x.size(3);
        Check.due("one that is neither first nor last", x.sound(), 1);
        x.enter(0, 2, 2, 0);
        Check.due("the last of size 3", x.sound(), 0);
        WordTerminator y = new WordTerminator();
        y.enter(2, 0, 0, 0);
        y.signs(2);
        Check.due("only signs count", y.sound(), 1);
    }

    private static void valueNatural() {
        WordTerminator x = Check.withRules("ab>ba", "c>");
        x.size(2);
        Check.matrix(x, 0, 2, 1, 2, 3, 4);
        Check.matrix(x, 1, 2, 5, -1, 7, 8);
        int[] ab = {19, 16, 43, 32};
        int[] ba = {5, 10, 31, 46};
        for (int e = 0; e < 4; e++) {
            Check.due("ab " + e, x.value(0, 0, e / 2, e % 2), ab[e]);
            Check.due("ba " + e, x.value(0, 1, e / 2, e % 2), ba[e]);
            Check.due("no signs " + e, x.value(1, 1, e / 2, e % 2), e % 3 == 0 ? 1 : 0);
        }
        Check.due("NONE is 0", x.value(1, 0, 0, 1), 0);
        Check.due("row 2", x.value(0, 0, 2, 0), -2);
        Check.due("column 2", x.value(0, 0, 0, 2), -2);
        Check.due("row -1", x.value(0, 0, -1, 0), -2);
        Check.due("column -1", x.value(0, 0, 0, -1), -2);
        Check.due("s = 2", x.value(0, 2, 0, 0), -2);
        Check.due("s = -1", x.value(0, -1, 0, 0), -2);
        Check.due("i = 2", x.value(2, 0, 0, 0), -2);
        Check.due("i = -1", x.value(-1, 0, 0, 0), -2);
        x.size(1);
        Check.due("row 1 of size 1", x.value(0, 0, 1, 0), -2);
        Check.due("size 1", x.value(0, 0, 0, 0), 5);
    }

    private static void valueOver() {
        WordTerminator x = Check.withRules("aaab>b", "baaaa>");
        x.size(2);
        Check.matrix(x, 0, 2, 999, 0, 0, 1);
        Check.matrix(x, 1, 2, 999, 0, 0, 1);
        Check.due("999 to the fourth, first number", x.value(0, 0, 0, 0), -5);
        Check.due("OVER at each place", x.value(0, 0, 1, 1), -5);
        Check.due("BAD ahead of OVER", x.value(0, 0, 2, 1), -2);
        Check.due("right is not OVER", x.value(0, 1, 0, 0), 999);
        Check.due("not weak, as it is OVER", x.info(0, 3), 0);
        Check.matrix(x, 1, 2, 0, 0, 0, 1);
        Check.due("a beginning that is not OVER", x.value(0, 0, 0, 0), 0);
        Check.due("0 first: never OVER", x.value(1, 0, 0, 0), 0);
        WordTerminator y = Check.withRules("aaaab>", "aaac>", "b>aaaab");
        y.enter(0, 0, 0, 999);
        y.enter(1, 0, 0, 0);
        Check.due("a beginning is OVER, the whole would be 0", y.value(0, 0, 0, 0), -5);
        Check.due("not weak", y.info(0, 3), 0);
        Check.due("not weak, right is OVER", y.info(2, 3), 0);
        y.enter(2, 0, 0, 2);
        Check.due("999 to the third, twice", y.value(1, 0, 0, 0), 1994005998);
        y.enter(2, 0, 0, 3);
        Check.due("999 to the third, three times", y.value(1, 0, 0, 0), -5);
        WordTerminator w = nearTheLimit(280);
        Check.due("2147483647 is not OVER", w.value(0, 0, 0, 0), 2147483647);
        Check.due("and it falls", w.info(0, 4), 1);
        w = nearTheLimit(281);
        Check.due("2147483648 is OVER", w.value(0, 0, 0, 0), -5);
        Check.due("and is not weak", w.info(0, 3), 0);
    }

    // Row 0 begins as (2, 1); each further sign makes (n, 1) to (999 n + g, 1).
    private static WordTerminator nearTheLimit(int lastSummand) {
        WordTerminator x = new WordTerminator();
        x.signs(4);
        Check.rule(x, "abcd>");
        x.size(2);
        Check.matrix(x, 0, 2, 2, 1, 0, 1);
        Check.matrix(x, 1, 2, 999, 0, 153, 1);
        Check.matrix(x, 2, 2, 999, 0, 784, 1);
        Check.matrix(x, 3, 2, 999, 0, lastSummand, 1);
        return x;
    }

    private static void valueTropic() {
        WordTerminator x = Check.withRules("ab>", "aaaaaa>");
        x.ring(1);
        x.size(2);
        Check.matrix(x, 0, 2, 1, 5, -1, 2);
        Check.matrix(x, 1, 2, 9, -1, 3, -1);
        Check.due("the lesser of 10 and 8", x.value(0, 0, 0, 0), 8);
        Check.due("all NONE", x.value(0, 0, 0, 1), -1);
        Check.due("with NONE the other one", x.value(0, 0, 1, 0), 5);
        Check.due("NONE", x.value(0, 0, 1, 1), -1);
        Check.due("no signs, alike", x.value(0, 1, 1, 1), 0);
        Check.due("no signs, unlike", x.value(0, 1, 1, 0), -1);
        x.enter(0, 0, 0, 999);
        Check.due("six times 999", x.value(1, 0, 0, 0), 5994);
        x.enter(0, 0, 0, 0);
        Check.due("0 is a number", x.value(0, 0, 0, 0), 8);
        x.enter(0, 0, 1, 0);
        Check.due("0 is a number, once more", x.value(0, 0, 0, 0), 3);
    }

    private static void valueArctic() {
        WordTerminator x = Check.withRules("ab>");
        x.ring(2);
        x.size(2);
        Check.matrix(x, 0, 2, 1, 5, -1, 2);
        Check.matrix(x, 1, 2, 9, -1, 3, -1);
        Check.due("the greater of 10 and 8", x.value(0, 0, 0, 0), 10);
        Check.due("all NONE", x.value(0, 0, 0, 1), -1);
        Check.due("with NONE the other one", x.value(0, 0, 1, 0), 5);
        Check.due("no signs, alike", x.value(0, 1, 0, 0), 0);
        Check.due("no signs, unlike", x.value(0, 1, 0, 1), -1);
    }

    private static void judged(WordTerminator x, String of, int weak, int falls) {
        Check.due("weak: " + of, x.info(0, 3), weak);
        Check.due("falls: " + of, x.info(0, 4), falls);
        Check.due("count(7): " + of, x.count(7), weak);
    }

    private static void weakAndFalls() {
        WordTerminator x = Check.withRules("a>b");
        x.size(2);
        Check.matrix(x, 0, 2, 5, 5, 5, 5);
        Check.matrix(x, 1, 2, 4, 5, 4, 4);
        judged(x, "NATURAL, all but row 0, column 1 greater", 1, 0);
        Check.matrix(x, 1, 2, 5, 4, 5, 5);
        judged(x, "NATURAL, row 0, column 1 alone greater", 1, 1);
        Check.matrix(x, 1, 2, 5, 4, 6, 5);
        judged(x, "NATURAL, one is less", 0, 0);
        Check.matrix(x, 0, 2, 5, 5, 0, 5);
        Check.matrix(x, 1, 2, 5, 4, -1, 5);
        judged(x, "NATURAL, NONE is 0", 1, 1);
        x.ring(2);
        Check.matrix(x, 0, 2, 5, 5, 0, -1);
        Check.matrix(x, 1, 2, 4, 4, -1, -1);
        judged(x, "ARCTIC, greater, NONE below 0, both NONE", 1, 1);
        Check.matrix(x, 1, 2, 4, 5, -1, -1);
        judged(x, "ARCTIC, one alike", 1, 0);
        Check.matrix(x, 1, 2, 4, 4, -1, 0);
        judged(x, "ARCTIC, NONE is less than 0", 0, 0);
        x.ring(1);
        judged(x, "TROPIC, 0 is less than NONE", 0, 0);
        Check.matrix(x, 0, 2, 5, -1, -1, -1);
        Check.matrix(x, 1, 2, 4, 999, -1, 0);
        judged(x, "TROPIC, greater, NONE above all, both NONE", 1, 1);
        Check.matrix(x, 1, 2, 5, 999, -1, 0);
        judged(x, "TROPIC, one alike", 1, 0);
        x.size(1);
        judged(x, "TROPIC, size 1, alike", 1, 0);
        x.enter(0, 0, 0, 6);
        judged(x, "TROPIC, size 1, greater", 1, 1);
    }
}
