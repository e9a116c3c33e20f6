// The bounds of promises 30 to 36 that are taken, and what lies on either side of them.
// Refusals stand in RefusedTest.
public final class SheetsEdgesTest {
    private static final int LEAST = Integer.MIN_VALUE;
    private static final int MOST = Integer.MAX_VALUE;

    public static void main(String[] args) {
        sheetOfEachSizeAndForm();
        sheetAnewIsAllNoughts();
        sheetsAreTheirOwn();
        loseOfEmptyAndFull();
        layAtFirstAndLastItem();
        layAtTheBoundsOfEachForm();
        leastIntIsNoRefusal();
        findingsOneAfterTheOther();
        copyOfAllAndNone();
        copyInOneSheet();
        copyOfEachForm();
        copyAtEachPlaceAndLength();
        writeOfEachLength();
        writeOfAFullWord();
        countsOfAFullObject();
        countsOfRulesLeft();
        countOfWeakRules();
        countOfFindings();
        Check.end();
    }

    private static void items(String what, WordTerminator x, int s, int form, int... want) {
        for (int i = 0; i < want.length; i++) {
            Check.due(what + ", item " + i, x.get(s, form, i), want[i]);
        }
    }

    private static WordTerminator numbered(int form, int n) {
        WordTerminator x = new WordTerminator();
        x.sheet(0, form, n);
        for (int i = 0; i < n; i++) {
            x.lay(0, form, i, i + 1);
        }
        return x;
    }

    // Promise 30.
    private static void sheetOfEachSizeAndForm() {
        for (int s : new int[] {0, 3}) {
            for (int form = 0; form <= 2; form++) {
                for (int n : new int[] {0, 1, 59, 60}) {
                    WordTerminator x = new WordTerminator();
                    String what = "sheet(" + s + ", " + form + ", " + n + ")";
                    Check.due(what, x.sheet(s, form, n), n);
                    for (int i = 0; i < n; i++) {
                        Check.due(what + ", item " + i, x.get(s, form, i), 0);
                    }
                    Check.due(what + ": no finding", x.count(8), 0);
                    Check.due(what + ", one item more", x.get(s, form, n), LEAST);
                    Check.due(what + ": INDEX", x.count(8), 2);
                    Check.due(what + ", lose", x.lose(s), n);
                }
            }
        }
    }

    private static void sheetAnewIsAllNoughts() {
        WordTerminator x = numbered(2, 60);
        Check.due("fewer items", x.sheet(0, 2, 1), 1);
        items("fewer items", x, 0, 2, 0);
        Check.due("more items again", x.sheet(0, 2, 60), 60);
        for (int i = 0; i < 60; i++) {
            Check.due("item " + i, x.get(0, 2, i), 0);
        }
        WordTerminator y = numbered(0, 5);
        Check.due("lose", y.lose(0), 5);
        Check.due("anew behind it", y.sheet(0, 0, 5), 5);
        items("anew behind it", y, 0, 0, 0, 0, 0, 0, 0);
        WordTerminator z = numbered(0, 3);
        Check.due("another form", z.sheet(0, 1, 3), 3);
        items("another form", z, 0, 1, 0, 0, 0);
        Check.due("it is no row of bytes any more", z.lay(0, 0, 0, 1), -13);
        WordTerminator w = numbered(1, 3);
        Check.due("SIZE", w.sheet(0, 2, -1), -15);
        items("a refused one leaves it", w, 0, 1, 1, 2, 3);
        Check.due("above 60", w.sheet(0, 2, 61), -2);
        items("a refused one leaves it", w, 0, 1, 1, 2, 3);
    }

    private static void sheetsAreTheirOwn() {
        WordTerminator x = new WordTerminator();
        for (int s = 0; s < 4; s++) {
            x.sheet(s, 2, 3);
        }
        for (int s = 0; s < 4; s++) {
            x.lay(s, 2, 1, 10 + s);
        }
        for (int s = 0; s < 4; s++) {
            items("sheet " + s, x, s, 2, 0, 10 + s, 0);
        }
        Check.due("lose(1)", x.lose(1), 3);
        Check.due("another one stays", x.get(2, 2, 1), 12);
        Check.due("it is lost", x.get(1, 2, 1), LEAST);
    }

    // Promise 31.
    private static void loseOfEmptyAndFull() {
        for (int n : new int[] {0, 1, 60}) {
            for (int s : new int[] {0, 3}) {
                WordTerminator x = new WordTerminator();
                Check.due("lost at first", x.lose(s), -11);
                x.sheet(s, 1, n);
                Check.due("lose of " + n, x.lose(s), n);
                Check.due("lost again", x.lose(s), -11);
                Check.due("finding", x.count(8), 1);
            }
        }
        WordTerminator y = new WordTerminator();
        Check.due("lose(-1)", y.lose(-1), -2);
        Check.due("lose(4)", y.lose(4), -2);
        Check.due("BAD is no finding", y.count(8), 0);
    }

    // Promises 32 and 33.
    private static void layAtFirstAndLastItem() {
        for (int form = 0; form <= 2; form++) {
            for (int n : new int[] {1, 2, 60}) {
                WordTerminator x = new WordTerminator();
                x.sheet(3, form, n);
                Check.due("lay of the first", x.lay(3, form, 0, 7), 1);
                Check.due("lay of the last", x.lay(3, form, n - 1, -7), 1);
                Check.due("get of the first", x.get(3, form, 0), n == 1 ? -7 : 7);
                Check.due("get of the last", x.get(3, form, n - 1), -7);
                Check.due("no finding", x.count(8), 0);
                Check.due("lay behind the last", x.lay(3, form, n, 5), -12);
                Check.due("lay ahead of the first", x.lay(3, form, -1, 5), -12);
                Check.due("get of the last stays", x.get(3, form, n - 1), -7);
            }
            WordTerminator none = new WordTerminator();
            none.sheet(3, form, 0);
            Check.due("lay with no items", none.lay(3, form, 0, 5), -12);
            Check.due("lay with no items, -1", none.lay(3, form, -1, 5), -12);
        }
    }

    private static void layAtTheBoundsOfEachForm() {
        int[] told = {0, 1, -1, 127, 128, 129, 255, 256, -128, -129, 32767, 32768, 65535, 65536, -32768, -32769, MOST, LEAST};
        int[] bytes = {0, 1, -1, 127, -128, -127, -1, 0, -128, 127, -1, 0, -1, 0, 0, -1, -1, 0};
        int[] shorts = {0, 1, -1, 127, 128, 129, 255, 256, -128, -129, 32767, -32768, -1, 0, -32768, 32767, -1, 0};
        WordTerminator x = new WordTerminator();
        for (int s = 0; s < 3; s++) {
            x.sheet(s, s, 1);
        }
        for (int k = 0; k < told.length; k++) {
            for (int s = 0; s < 3; s++) {
                Check.due("lay " + told[k], x.lay(s, s, 0, told[k]), 1);
            }
            Check.due(told[k] + " as a byte", x.get(0, 0, 0), bytes[k]);
            Check.due(told[k] + " as a short", x.get(1, 1, 0), shorts[k]);
            Check.due(told[k] + " as an int", x.get(2, 2, 0), told[k]);
        }
    }

    private static void leastIntIsNoRefusal() {
        WordTerminator x = new WordTerminator();
        x.sheet(0, 2, 1);
        Check.due("lay", x.lay(0, 2, 0, LEAST), 1);
        Check.due("the least int is an item", x.get(0, 2, 0), LEAST);
        Check.due("count(8) tells", x.count(8), 0);
        Check.due("no such item", x.get(0, 2, 1), LEAST);
        Check.due("count(8) tells", x.count(8), 2);
        Check.due("BAD", x.get(4, 2, 0), LEAST);
        Check.due("count(8) stays", x.count(8), 2);
        Check.due("another form", x.get(0, 1, 0), LEAST);
        Check.due("count(8) tells", x.count(8), 3);
        Check.due("the item again", x.get(0, 2, 0), LEAST);
        Check.due("count(8) stays", x.count(8), 3);
    }

    private static void findingsOneAfterTheOther() {
        WordTerminator x = new WordTerminator();
        x.sheet(1, 1, 2);
        x.sheet(2, 2, 2);
        int[] numbers = {5, 4, 3, 2, 1, 2, 3, 4, 5, 1};
        for (int number : numbers) {
            int answer = number == 1 ? x.lose(0)
                : number == 2 ? x.lay(1, 1, 2, 0)
                : number == 3 ? x.lay(1, 2, 0, 0)
                : number == 4 ? x.copy(1, 0, 2, 0, 1)
                : x.sheet(0, 0, -1);
            Check.due("finding " + number, answer, -10 - number);
            Check.due("count(8)", x.count(8), number);
            Check.due("an answer that is none", x.get(1, 1, 1), 0);
            Check.due("count(8) stays", x.count(8), number);
        }
    }

    // Promise 34.
    private static void copyOfAllAndNone() {
        WordTerminator x = numbered(2, 60);
        x.sheet(3, 2, 60);
        Check.due("copy of 60", x.copy(0, 0, 3, 0, 60), 1);
        for (int i = 0; i < 60; i++) {
            Check.due("item " + i, x.get(3, 2, i), i + 1);
        }
        Check.due("copy of none, at the ends", x.copy(0, 60, 3, 60, 0), 1);
        Check.due("copy of none, at the beginnings", x.copy(0, 0, 3, 0, 0), 1);
        Check.due("copy of none, from one behind the end", x.copy(0, 61, 3, 0, 0), -12);
        Check.due("copy of none, to one behind the end", x.copy(0, 0, 3, 61, 0), -12);
        Check.due("copy of the last to the first", x.copy(0, 59, 3, 0, 1), 1);
        Check.due("it is there", x.get(3, 2, 0), 60);
        Check.due("copy of the first to the last", x.copy(0, 0, 3, 59, 1), 1);
        Check.due("it is there", x.get(3, 2, 59), 1);
        x.sheet(1, 2, 0);
        x.sheet(2, 2, 0);
        Check.due("no items to no items", x.copy(1, 0, 2, 0, 0), 1);
        Check.due("no items to itself", x.copy(1, 0, 1, 0, 0), 1);
        Check.due("one of no items", x.copy(1, 0, 0, 0, 1), -12);
        Check.due("one to no items", x.copy(0, 0, 1, 0, 1), -12);
    }

    private static void copyInOneSheet() {
        for (int i = 0; i <= 5; i++) {
            for (int j = 0; j <= 5; j++) {
                for (int n = 0; n <= 6; n++) {
                    WordTerminator x = numbered(1, 5);
                    boolean fits = i + n <= 5 && j + n <= 5;
                    Check.due("copy " + i + " " + j + " " + n, x.copy(0, i, 0, j, n), fits ? 1 : -12);
                    for (int k = 0; k < 5; k++) {
                        boolean within = fits && k >= j && k < j + n;
                        Check.due("item " + k, x.get(0, 1, k), within ? i + k - j + 1 : k + 1);
                    }
                }
            }
        }
    }

    private static void copyOfEachForm() {
        int[] extremes = {-128, -32768, LEAST};
        for (int form = 0; form <= 2; form++) {
            WordTerminator x = new WordTerminator();
            x.sheet(0, form, 2);
            x.sheet(1, form, 3);
            x.lay(0, form, 1, extremes[form]);
            x.lay(1, form, 0, 5);
            Check.due("copy, form " + form, x.copy(0, 0, 1, 1, 2), 1);
            items("form " + form, x, 1, form, 5, 0, extremes[form]);
            items("what is copied stays", x, 0, form, 0, extremes[form]);
        }
    }

    private static void copyAtEachPlaceAndLength() {
        for (int i = -1; i <= 4; i++) {
            for (int j = -1; j <= 3; j++) {
                for (int n = -1; n <= 4; n++) {
                    WordTerminator x = numbered(2, 3);
                    x.sheet(1, 2, 2);
                    boolean fits = i >= 0 && j >= 0 && n >= 0 && i + n <= 3 && j + n <= 2;
                    Check.due("copy " + i + " " + j + " " + n, x.copy(0, i, 1, j, n), fits ? 1 : -12);
                    Check.due("count(8)", x.count(8), fits ? 0 : 2);
                    for (int k = 0; k < 2; k++) {
                        boolean within = fits && k >= j && k < j + n;
                        Check.due("item " + k, x.get(1, 2, k), within ? i + k - j + 1 : 0);
                    }
                }
            }
        }
    }

    // Promise 35.
    private static void writeOfEachLength() {
        for (int form = 0; form <= 2; form++) {
            for (int signs = 0; signs <= 4; signs++) {
                for (int n = 0; n <= 5; n++) {
                    WordTerminator x = new WordTerminator();
                    x.signs(4);
                    x.sheet(3, form, n);
                    for (int i = 0; i < n; i++) {
                        x.lay(3, form, i, 99);
                    }
                    Check.word(x, "dcba".substring(0, signs));
                    int written = Math.min(signs, n);
                    Check.due("write of " + signs + " to " + n, x.write(3), written);
                    for (int i = 0; i < n; i++) {
                        Check.due("item " + i, x.get(3, form, i), i < written ? 3 - i : 99);
                    }
                    Check.due("the word stays", x.count(4), signs);
                }
            }
        }
    }

    private static void writeOfAFullWord() {
        for (int n : new int[] {23, 24, 25, 60}) {
            WordTerminator x = Check.withRules("c=ccb");
            Check.word(x, "abcabcabcabcabcabcab");
            x.run(2);
            x.sheet(0, 0, n);
            x.lay(0, 0, n - 1, 77);
            Check.due("write to " + n, x.write(0), Math.min(n, 24));
            for (int k = 0; k < Math.min(n, 24); k++) {
                Check.due("item " + k, x.get(0, 0, k), x.letter(k));
            }
            Check.due("the last item", x.get(0, 0, n - 1), n > 24 ? 77 : x.letter(n - 1));
        }
    }

    // Promise 36.
    private static void countsOfAFullObject() {
        WordTerminator x = new WordTerminator();
        States.full(x);
        int[] full = {8, 0, 8, 0, 24, 2, 20};
        for (int what = 0; what < full.length; what++) {
            Check.due("full: count " + what, x.count(what), full[what]);
        }
        Check.due("no finding", x.count(8), 0);
        Check.due("count(9)", x.count(9), -2);
        Check.due("count(-1)", x.count(-1), -2);
        WordTerminator none = new WordTerminator();
        for (int what = 0; what <= 8; what++) {
            Check.due("new: count " + what, none.count(what), 0);
        }
    }

    private static void countsOfRulesLeft() {
        WordTerminator x = new WordTerminator();
        States.eightStages(x);
        int[] strict = {5, 4, 3, 2, 1, 0, 0, 0, 0};
        for (int k = 8; k >= 0; k--) {
            Check.due("stages", x.count(2), k);
            Check.due("not removed", x.count(1), 8 - k);
            Check.due("strict ones", x.count(3), strict[k]);
            Check.due("rules", x.count(0), 8);
            x.back();
        }
    }

    private static void countOfWeakRules() {
        WordTerminator x = new WordTerminator();
        for (int i = 0; i < 8; i++) {
            Check.due("weak", x.count(7), i);
            Check.rule(x, i % 2 == 0 ? "a>b" : "aaaa=b");
        }
        Check.due("all eight are weak", x.count(7), 8);
        x.enter(0, 0, 0, 999);
        Check.due("four are OVER", x.count(7), 4);
        x.enter(0, 0, 0, 0);
        Check.due("0 and 1", x.count(7), 0);
        x.enter(1, 0, 0, -1);
        Check.due("0 and NONE, by NATURAL 0, not sound", x.count(7), 8);
        x.enter(0, 0, 0, 2);
        Check.due("not sound, no stage", x.stage(), -3);
        x.enter(1, 0, 0, 1);
        Check.due("stage", x.stage(), 255);
        Check.due("removed ones count", x.count(7), 8);
    }

    private static void countOfFindings() {
        WordTerminator x = new WordTerminator();
        Check.due("0 before any", x.count(8), 0);
        Check.due("NOT is none", x.stage(), -3);
        Check.due("BAD is none", x.drop(0), -2);
        Check.due("a fault is none", x.rule(), -1000);
        Check.due("0 still", x.count(8), 0);
        Check.due("NULL of read", x.read(0, 0), -11);
        Check.due("1", x.count(8), 1);
        Check.due("SIZE", x.sheet(0, 0, LEAST), -15);
        Check.due("5", x.count(8), 5);
        Check.due("NULL of write", x.write(0), -11);
        Check.due("1", x.count(8), 1);
        Check.due("SIZE", x.sheet(0, 0, -1), -15);
        Check.due("NULL of copy", x.copy(0, 0, 1, 0, 0), -11);
        Check.due("1", x.count(8), 1);
        Check.due("a sheet", x.sheet(0, 0, 1), 1);
        Check.due("the latest stays", x.count(8), 1);
    }
}
