// Promises 30 to 36: sheet, lose, lay, get, copy, write, count.
public final class SheetsTest {
    private static final int LEAST = Integer.MIN_VALUE;

    public static void main(String[] args) {
        sheet();
        lose();
        layAndGet();
        lowestBits();
        findings();
        copy();
        copyRefused();
        write();
        count();
        Check.end();
    }

    private static void sheet() {
        WordTerminator x = new WordTerminator();
        Check.due("sheet(3, 2, 60)", x.sheet(3, 2, 60), 60);
        Check.due("last item", x.get(3, 2, 59), 0);
        Check.due("sheet(0, 0, 0)", x.sheet(0, 0, 0), 0);
        Check.due("sheet(0, 0, 61)", x.sheet(0, 0, 61), -2);
        Check.due("sheet(4, 0, 1)", x.sheet(4, 0, 1), -2);
        Check.due("sheet(-1, 0, 1)", x.sheet(-1, 0, 1), -2);
        Check.due("sheet(0, 3, 1)", x.sheet(0, 3, 1), -2);
        Check.due("sheet(0, -1, 1)", x.sheet(0, -1, 1), -2);
        Check.due("BAD ahead of SIZE", x.sheet(0, 3, -1), -2);
        Check.due("no finding", x.count(8), 0);
        Check.due("sheet(3, 0, -1)", x.sheet(3, 0, -1), -15);
        Check.due("finding", x.count(8), 5);
        Check.due("it is as it was", x.lose(3), 60);
        x.sheet(1, 1, 5);
        x.lay(1, 1, 4, 9);
        Check.due("new again", x.sheet(1, 1, 5), 5);
        Check.due("0 again", x.get(1, 1, 4), 0);
        x.lay(1, 1, 4, 9);
        x.sheet(1, 2, 3);
        x.sheet(1, 2, 5);
        Check.due("0 again, behind a shorter one", x.get(1, 2, 4), 0);
    }

    private static void lose() {
        WordTerminator x = new WordTerminator();
        x.sheet(2, 0, 7);
        Check.due("lose(4)", x.lose(4), -2);
        Check.due("lose(-1)", x.lose(-1), -2);
        Check.due("lose(2)", x.lose(2), 7);
        Check.due("lose(2) again", x.lose(2), -11);
        Check.due("finding", x.count(8), 1);
        Check.due("get of a lost one", x.get(2, 0, 0), LEAST);
        x.sheet(2, 0, 0);
        Check.due("no items", x.lose(2), 0);
    }

    private static void layAndGet() {
        WordTerminator x = new WordTerminator();
        x.sheet(0, 2, 3);
        Check.due("lay", x.lay(0, 2, 2, LEAST), 1);
        Check.due("lay", x.lay(0, 2, 0, Integer.MAX_VALUE), 1);
        Check.due("get", x.get(0, 2, 2), LEAST);
        Check.due("it is no finding", x.count(8), 0);
        Check.due("get", x.get(0, 2, 0), Integer.MAX_VALUE);
        Check.due("get", x.get(0, 2, 1), 0);
        Check.due("lay(4, ..)", x.lay(4, 2, 0, 1), -2);
        Check.due("lay(-1, ..)", x.lay(-1, 2, 0, 1), -2);
        Check.due("lay, form 3", x.lay(0, 3, 0, 1), -2);
        Check.due("lay, form -1", x.lay(0, -1, 0, 1), -2);
        Check.due("get(4, ..)", x.get(4, 2, 0), LEAST);
        Check.due("get(-1, ..)", x.get(-1, 2, 0), LEAST);
        Check.due("get, form 3", x.get(0, 3, 0), LEAST);
        Check.due("get, form -1", x.get(0, -1, 0), LEAST);
        Check.due("BAD is no finding", x.count(8), 0);
    }

    private static void lowestBits() {
        WordTerminator x = new WordTerminator();
        x.sheet(0, 0, 1);
        x.sheet(1, 1, 1);
        int[] told = {127, 128, 255, 256, -129, 32767, 32768, 65535, 65536, -32769};
        for (int v : told) {
            Check.due("lay", x.lay(0, 0, 0, v), 1);
            Check.due("byte of " + v, x.get(0, 0, 0), (byte) v);
            Check.due("lay", x.lay(1, 1, 0, v), 1);
            Check.due("short of " + v, x.get(1, 1, 0), (short) v);
        }
        Check.due("128 as a byte", x.lay(0, 0, 0, 128), 1);
        Check.due("is -128", x.get(0, 0, 0), -128);
    }

    private static void findings() {
        WordTerminator x = new WordTerminator();
        x.sheet(1, 1, 2);
        Check.due("NULL ahead of others", x.lay(0, 1, -1, 5), -11);
        Check.due("finding", x.count(8), 1);
        Check.due("CAST ahead of INDEX", x.lay(1, 2, 2, 5), -13);
        Check.due("finding", x.count(8), 3);
        Check.due("INDEX", x.lay(1, 1, 2, 5), -12);
        Check.due("finding", x.count(8), 2);
        Check.due("INDEX below 0", x.lay(1, 1, -1, 5), -12);
        Check.due("get, NULL", x.get(0, 1, -1), LEAST);
        Check.due("finding", x.count(8), 1);
        Check.due("get, INDEX", x.get(1, 1, 2), LEAST);
        Check.due("finding", x.count(8), 2);
        Check.due("get, CAST", x.get(1, 0, 2), LEAST);
        Check.due("finding", x.count(8), 3);
        Check.due("get, INDEX below 0", x.get(1, 1, -1), LEAST);
        Check.due("finding", x.count(8), 2);
        Check.due("get", x.get(1, 1, 1), 0);
        Check.due("the latest stays", x.count(8), 2);
    }

    private static void items(WordTerminator x, int s, int form, int... want) {
        for (int i = 0; i < want.length; i++) {
            Check.due("sheet " + s + ", item " + i, x.get(s, form, i), want[i]);
        }
    }

    private static void copy() {
        WordTerminator x = new WordTerminator();
        x.sheet(0, 1, 5);
        x.sheet(1, 1, 3);
        for (int i = 0; i < 5; i++) {
            x.lay(0, 1, i, i + 1);
        }
        Check.due("copy", x.copy(0, 2, 1, 1, 2), 1);
        items(x, 1, 1, 0, 3, 4);
        Check.due("copy, up in one", x.copy(0, 0, 0, 1, 4), 1);
        items(x, 0, 1, 1, 1, 2, 3, 4);
        Check.due("copy, down in one", x.copy(0, 2, 0, 0, 3), 1);
        items(x, 0, 1, 2, 3, 4, 3, 4);
        Check.due("copy of nothing at the ends", x.copy(0, 5, 1, 3, 0), 1);
        Check.due("copy of all", x.copy(1, 0, 0, 2, 3), 1);
        items(x, 0, 1, 2, 3, 0, 3, 4);
    }

    private static void copyRefused() {
        WordTerminator x = new WordTerminator();
        x.sheet(0, 1, 5);
        x.sheet(1, 1, 3);
        x.sheet(2, 2, 5);
        Check.due("s = 4", x.copy(4, 0, 0, 0, 1), -2);
        Check.due("s = -1", x.copy(-1, 0, 0, 0, 1), -2);
        Check.due("t = 4", x.copy(3, 0, 4, 0, 1), -2);
        Check.due("t = -1", x.copy(0, 0, -1, 0, 1), -2);
        Check.due("BAD is no finding", x.count(8), 0);
        Check.due("s is lost", x.copy(3, -1, 0, 0, 1), -11);
        Check.due("t is lost", x.copy(0, -1, 3, 0, 1), -11);
        Check.due("finding", x.count(8), 1);
        Check.due("STORE ahead of INDEX", x.copy(0, -1, 2, 0, 1), -14);
        Check.due("STORE of nothing", x.copy(0, 0, 2, 0, 0), -14);
        Check.due("finding", x.count(8), 4);
        int[][] wrong = {{-1, 0, 1}, {0, -1, 1}, {0, 0, -1}, {0, 0, 4}, {3, 0, 3}, {0, 1, 3}, {6, 0, 0}, {0, 4, 0},
            {5, 0, 1}, {Integer.MAX_VALUE, 0, 1}, {0, Integer.MAX_VALUE, 1}, {1, 1, Integer.MAX_VALUE},
            {Integer.MIN_VALUE, 0, 0}, {0, 0, Integer.MIN_VALUE}, {1, 0, Integer.MIN_VALUE}};
        for (int[] w : wrong) {
            Check.due("INDEX " + w[0] + " " + w[1] + " " + w[2], x.copy(0, w[0], 1, w[1], w[2]), -12);
        }
        Check.due("finding", x.count(8), 2);
    }

    private static void write() {
        WordTerminator x = new WordTerminator();
        Check.word(x, "cbac");
        x.sheet(0, 0, 3);
        x.sheet(1, 2, 6);
        x.lay(1, 2, 4, 9);
        Check.due("as many as there are items", x.write(0), 3);
        items(x, 0, 0, 2, 1, 0);
        Check.due("as many as there are signs", x.write(1), 4);
        items(x, 1, 2, 2, 1, 0, 2, 9, 0);
        Check.due("lost", x.write(2), -11);
        Check.due("finding", x.count(8), 1);
        Check.due("write(4)", x.write(4), -2);
        Check.due("write(-1)", x.write(-1), -2);
        x.word();
        Check.due("no signs", x.write(1), 0);
        items(x, 1, 2, 2, 1);
    }

    private static void count() {
        WordTerminator x = Check.withRules("a>b", "b=c", "b>bb");
        x.enter(0, 0, 0, 2);
        Check.word(x, "aab");
        x.run(2);
        Check.type(x, "abcd");
        Check.due("stage", x.stage(), 1);
        x.lose(0);
        int[] want = {3, 2, 1, 1, 3, 2, 4, 3, 1};
        for (int what = 0; what < want.length; what++) {
            Check.due("count " + what, x.count(what), want[what]);
        }
        x.enter(1, 0, 0, 3);
        Check.due("weak: b=c alone, a>b rises", x.count(7), 1);
        Check.due("count(9)", x.count(9), -2);
        Check.due("count(-1)", x.count(-1), -2);
    }
}
