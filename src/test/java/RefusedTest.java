// Each refusal of promises 2 to 36, the order of refusals where two fit, and that a refused call
// changes nothing (a finding nothing but count() 8). Answers at the bounds that are taken stand
// in the tests named Edges.
public final class RefusedTest {
    private static final int BAD = -2, NOT = -3, FULL = -4, OVER = -5;
    private static final int NULL = -11, INDEX = -12, CAST = -13, STORE = -14, SIZE = -15;
    private static final int LEAST = Integer.MIN_VALUE;

    public static void main(String[] args) {
        statesAreAsTold();
        signs();
        type();
        fault();
        rule();
        drop();
        side();
        info();
        ring();
        size();
        enter();
        entry();
        read();
        value();
        stage();
        back();
        stages();
        kept();
        swap();
        search();
        auto();
        word();
        step();
        run();
        letter();
        measure();
        sheet();
        lose();
        lay();
        get();
        copy();
        write();
        count();
        Check.end();
    }

    private static void bad(String what, Probe.Call call) {
        Probe.refused(what + ", new", States::fresh, call, BAD);
        Probe.refused(what + ", busy", States::busy, call, BAD);
        Probe.refused(what + ", full", States::full, call, BAD);
    }

    private static States.State with(String... rules) {
        return x -> {
            for (String text : rules) {
                Check.rule(x, text);
            }
        };
    }

    private static States.State then(States.State first, States.State second) {
        return x -> {
            first.tell(x);
            second.tell(x);
        };
    }

    private static States.State typed(States.State first, String text) {
        return then(first, x -> {
            x.wipe();
            Check.type(x, text);
        });
    }

    // The other tests stand on this.
    private static void statesAreAsTold() {
        WordTerminator x = new WordTerminator();
        States.full(x);
        int[] full = {8, 0, 8, 0, 24, 2, 20};
        for (int what = 0; what < full.length; what++) {
            Check.due("full: count " + what, x.count(what), full[what]);
        }
        for (int i = 0; i < 8; i++) {
            Check.due("full: stage " + i, x.stages(i, 0), 1 << i);
        }
        Check.due("full: step", x.step(), FULL);
        WordTerminator y = new WordTerminator();
        States.busy(y);
        int[] busy = {3, 1, 2, 0, 6, 3, 5};
        for (int what = 0; what < busy.length; what++) {
            Check.due("busy: count " + what, y.count(what), busy[what]);
        }
    }

    private static void signs() {
        for (int n : Probe.beyond(1, 4)) {
            bad("signs(" + n + ")", x -> x.signs(n));
        }
        States.State ruleAlone = with("a>");
        States.State wordAlone = x -> Check.word(x, "c");
        for (int n = 1; n <= 4; n++) {
            int m = n;
            Probe.refused("signs with a rule", ruleAlone, x -> x.signs(m), NOT);
            Probe.refused("signs with a word", wordAlone, x -> x.signs(m), NOT);
            Probe.refused("signs with both", States::full, x -> x.signs(m), NOT);
        }
        Probe.refused("signs: BAD ahead of NOT, a rule", ruleAlone, x -> x.signs(5), BAD);
        Probe.refused("signs: BAD ahead of NOT, a word", wordAlone, x -> x.signs(0), BAD);
    }

    private static void type() {
        for (int b : Probe.beyond(0, 255)) {
            bad("type(" + b + ")", x -> x.type(b));
        }
        for (int b : new int[] {0, 97, 255}) {
            Probe.refused("type(" + b + ") of a full text", States::full, x -> x.type(b), FULL);
        }
    }

    private static void fault() {
        for (int what : Probe.beyond(0, 1)) {
            bad("fault(" + what + ")", x -> x.fault(what));
        }
    }

    private static void rule() {
        Probe.refused("rule: NOT ahead of FULL and a fault", States::full, x -> x.rule(), NOT);
        Probe.refused("rule: NOT ahead of a fault", States::busy, x -> x.rule(), NOT);
        Probe.refused("rule: NOT of a good text", typed(States::busy, "a>b"), x -> x.rule(), NOT);
        Probe.refused("rule: NOT ahead of FULL", typed(States::eightStages, "a>b"), x -> x.rule(), NOT);
        Probe.refused("rule: FULL ahead of a fault", typed(States::eightRules, ">"), x -> x.rule(), FULL);
        Probe.refused("rule: FULL ahead of an empty text", States::eightRules, x -> x.rule(), FULL);
        Probe.refused("rule: FULL of a good text", typed(States::eightRules, "a>b"), x -> x.rule(), FULL);
        String[] texts = {"", "a", "abcabc", "abcabca", ">", "=a", "a>>", "a=abcabca", "abcabc>abcabca", "d>a", "a>d",
            "abcabc>abcabcabcabca", "\u0000", "a\u00ff"};
        int[] places = {0, 1, 6, 6, 0, 0, 2, 8, 13, 0, 2, 13, 0, 1};
        for (int k = 0; k < texts.length; k++) {
            Probe.refused("rule " + texts[k], typed(States::fresh, texts[k]), x -> x.rule(), -1000 - places[k]);
            Probe.refused("rule 1 " + texts[k], typed(with("a>"), texts[k]), x -> x.rule(), -1000 - places[k]);
        }
    }

    private static void drop() {
        Probe.refused("drop(0) of no rules", States::fresh, x -> x.drop(0), BAD);
        for (int i : Probe.beyond(0, 7)) {
            bad("drop(" + i + ")", x -> x.drop(i));
        }
        Probe.refused("drop: just behind the last", with("a>", "b>"), x -> x.drop(2), BAD);
        Probe.refused("drop: BAD ahead of NOT", States::busy, x -> x.drop(3), BAD);
        for (int i = 0; i < 8; i++) {
            int each = i;
            Probe.refused("drop with stages", States::full, x -> x.drop(each), NOT);
        }
    }

    private static void side() {
        Probe.refused("side of no rules", States::fresh, x -> x.side(0, 0, 0), BAD);
        for (int each : Probe.beyond(0, 7)) {
            bad("side, rule " + each, x -> x.side(each, 0, 0));
        }
        for (int each : Probe.beyond(0, 1)) {
            bad("side, side " + each, x -> x.side(0, each, 0));
        }
        for (int each : Probe.beyond(-1, 5)) {
            bad("side, place " + each, x -> x.side(0, 0, each));
        }
        Probe.refused("side: just behind the last rule", States::busy, x -> x.side(3, 0, -1), BAD);
    }

    private static void info() {
        for (int what = 0; what <= 5; what++) {
            int each = what;
            Probe.refused("info of no rules", States::fresh, x -> x.info(0, each), BAD);
            Probe.refused("info: just behind the last rule", States::busy, x -> x.info(3, each), BAD);
        }
        for (int each : Probe.beyond(0, 7)) {
            bad("info, rule " + each, x -> x.info(each, 0));
        }
        for (int each : Probe.beyond(0, 5)) {
            bad("info, what " + each, x -> x.info(0, each));
        }
    }

    private static void ring() {
        for (int v : Probe.beyond(0, 2)) {
            bad("ring(" + v + ")", x -> x.ring(v));
        }
    }

    private static void size() {
        for (int n : Probe.beyond(1, 3)) {
            bad("size(" + n + ")", x -> x.size(n));
        }
    }

    private static void enter() {
        for (int each : Probe.beyond(0, 3)) {
            bad("enter, sign " + each, x -> x.enter(each, 0, 0, 5));
        }
        for (int each : Probe.beyond(0, 2)) {
            bad("enter, row " + each, x -> x.enter(0, each, 0, 5));
            bad("enter, column " + each, x -> x.enter(0, 0, each, 5));
        }
        for (int each : Probe.beyond(-1, 999)) {
            bad("enter, number " + each, x -> x.enter(0, 0, 0, each));
        }
        for (int m = 1; m < 4; m++) {
            int n = m;
            Probe.refused("enter, sign " + n + " of " + n, x -> x.signs(n), x -> x.enter(n, 0, 0, 5), BAD);
        }
    }

    private static void entry() {
        for (int each : Probe.beyond(0, 3)) {
            bad("entry, sign " + each, x -> x.entry(each, 0, 0));
        }
        for (int each : Probe.beyond(0, 2)) {
            bad("entry, row " + each, x -> x.entry(0, each, 0));
            bad("entry, column " + each, x -> x.entry(0, 0, each));
        }
        for (int m = 1; m < 4; m++) {
            int n = m;
            Probe.refused("entry, sign " + n + " of " + n, x -> x.signs(n), x -> x.entry(n, 0, 0), BAD);
        }
    }

    private static void read() {
        for (int each : Probe.beyond(0, 3)) {
            bad("read, sign " + each, x -> x.read(each, 0));
            bad("read, sheet " + each, x -> x.read(0, each));
        }
        for (int s = 0; s < 4; s++) {
            int each = s;
            Probe.refused("read, lost " + s, States::fresh, x -> x.read(0, each), NULL);
            Probe.refused("read: BAD ahead of NULL", States::fresh, x -> x.read(3, each), BAD);
        }
        Probe.refused("read, lost", States::busy, x -> x.read(2, 3), NULL);
        Probe.refused("read, lost again", then(States::full, x -> x.lose(2)), x -> x.read(3, 2), NULL);
        for (int m = 1; m < 4; m++) {
            int n = m;
            States.State few = then(x -> x.signs(n), x -> x.sheet(0, 0, 9));
            Probe.refused("read, sign " + n + " of " + n, few, x -> x.read(n, 0), BAD);
        }
    }

    private static void value() {
        Probe.refused("value of no rules", States::fresh, x -> x.value(0, 0, 0, 0), BAD);
        for (int each : Probe.beyond(0, 7)) {
            bad("value, rule " + each, x -> x.value(each, 0, 0, 0));
        }
        for (int each : Probe.beyond(0, 1)) {
            bad("value, side " + each, x -> x.value(0, each, 0, 0));
        }
        for (int each : Probe.beyond(0, 2)) {
            bad("value, row " + each, x -> x.value(0, 0, each, 0));
            bad("value, column " + each, x -> x.value(0, 0, 0, each));
        }
        for (int size = 1; size <= 3; size++) {
            int n = size;
            States.State sized = then(States::busy, x -> x.size(n));
            Probe.refused("value, row " + n + " of " + n, sized, x -> x.value(0, 0, n, 0), BAD);
            Probe.refused("value, column " + n + " of " + n, sized, x -> x.value(0, 0, 0, n), BAD);
        }
        States.State much = then(with("aaaa>", "b>aaaa"), x -> x.enter(0, 0, 0, 999));
        Probe.refused("value, left is OVER", much, x -> x.value(0, 0, 0, 0), OVER);
        Probe.refused("value, right is OVER", much, x -> x.value(1, 1, 0, 0), OVER);
        Probe.refused("value: BAD ahead of OVER", much, x -> x.value(0, 0, 1, 0), BAD);
    }

    private static void stage() {
        Probe.refused("stage of no rules", States::fresh, x -> x.stage(), NOT);
        Probe.refused("stage, all are removed", States::full, x -> x.stage(), NOT);
        Probe.refused("stage, none falls", with("ab>ba"), x -> x.stage(), NOT);
        Probe.refused("stage, one rises", then(with("a>b", "b>c"), x -> {
            x.enter(0, 0, 0, 2);
            x.enter(2, 0, 0, 2);
        }), x -> x.stage(), NOT);
        States.State falling = then(with("aa>a"), x -> x.enter(0, 0, 0, 2));
        for (int entry = -1; entry <= 0; entry++) {
            int v = entry;
            Probe.refused("stage, the first is " + v, then(falling, x -> x.enter(2, 0, 0, v)), x -> x.stage(), NOT);
        }
        Probe.refused("stage, left is OVER", then(with("aaaa>"), x -> x.enter(0, 0, 0, 999)), x -> x.stage(), NOT);
        Probe.refused("stage, right of a free one is OVER", then(with("aa>a", "b=aaaa"), x -> x.enter(0, 0, 0, 999)),
            x -> x.stage(), NOT);
        for (int ring = 1; ring <= 2; ring++) {
            int v = ring;
            Probe.refused("stage, NONE by ring " + v, then(falling, x -> {
                x.ring(v);
                x.enter(1, 0, 0, -1);
            }), x -> x.stage(), NOT);
        }
    }

    private static void back() {
        Probe.refused("back of a new one", States::fresh, x -> x.back(), NOT);
        Probe.refused("back with rules alone", States::eightRules, x -> x.back(), NOT);
        Probe.refused("back behind the last", then(States::busy, x -> {
            x.back();
            x.back();
        }), x -> x.back(), NOT);
    }

    private static void stages() {
        for (int each : Probe.beyond(0, 7)) {
            for (int what = 0; what <= 3; what++) {
                int w = what;
                bad("stages, stage " + each, x -> x.stages(each, w));
            }
        }
        for (int each : Probe.beyond(0, 3)) {
            bad("stages, what " + each, x -> x.stages(0, each));
        }
        Probe.refused("stages of none", States::eightRules, x -> x.stages(0, 0), BAD);
        Probe.refused("stages: just behind the last", States::busy, x -> x.stages(2, 0), BAD);
        Probe.refused("stages: one taken back", then(States::full, x -> x.back()), x -> x.stages(7, 3), BAD);
    }

    private static void kept() {
        for (int each : Probe.beyond(0, 7)) {
            bad("kept, stage " + each, x -> x.kept(each, 0, 0, 0));
        }
        for (int each : Probe.beyond(0, 3)) {
            bad("kept, sign " + each, x -> x.kept(0, each, 0, 0));
        }
        for (int each : Probe.beyond(0, 2)) {
            bad("kept, row " + each, x -> x.kept(0, 0, each, 0));
            bad("kept, column " + each, x -> x.kept(0, 0, 0, each));
        }
        Probe.refused("kept of none", States::eightRules, x -> x.kept(0, 0, 0, 0), BAD);
        Probe.refused("kept: just behind the last", States::busy, x -> x.kept(2, 0, 0, 0), BAD);
        Probe.refused("kept: a fourth sign of three", States::busy, x -> x.kept(1, 3, 0, 0), BAD);
    }

    private static void swap() {
        for (int each : Probe.beyond(0, 6)) {
            bad("swap(" + each + ")", x -> x.swap(each));
        }
        Probe.refused("swap of none", States::eightRules, x -> x.swap(0), BAD);
        Probe.refused("swap of one", then(States::busy, x -> x.back()), x -> x.swap(0), BAD);
        Probe.refused("swap of the last and none", States::busy, x -> x.swap(1), BAD);
        States.State second = then(with("a>b", "b>c"), x -> {
            x.enter(0, 0, 0, 2);
            x.stage();
            x.enter(0, 0, 0, 1);
            x.enter(1, 0, 0, 2);
            x.stage();
        });
        Probe.refused("swap, what is second can't be first", second, x -> x.swap(0), NOT);
        States.State both = then(with("a>b", "b>c"), x -> {
            x.enter(0, 0, 0, 2);
            x.stage();
            x.enter(0, 0, 0, 3);
            x.enter(1, 0, 0, 2);
            x.stage();
        });
        Probe.refused("swap, what was first finds nothing", both, x -> x.swap(0), NOT);
    }

    private static void search() {
        for (int b : Probe.beyond(1, 9)) {
            bad("search(" + b + ")", x -> x.search(b));
        }
        refusedTries("search", x -> x.search(1), x -> x.search(2), x -> x.search(9));
        States.State never = with("a>a");
        for (int b = 1; b <= 9; b++) {
            int each = b;
            Probe.refused("search(" + b + ") of no rules", States::fresh, x -> x.search(each), -1);
            Probe.refused("search(" + b + ") finds none", never, x -> x.search(each), -1);
        }
        Probe.refused("search, all are removed", then(States::eightStages, x -> x.size(1)), x -> x.search(8), -1);
    }

    private static void refusedTries(String name, Probe.Call by1, Probe.Call by2, Probe.Call by9) {
        States.State four = then(x -> x.signs(4), with("a>b"));
        Probe.refused(name + ": 10 to the 4th", four, by9, NOT);
        Probe.refused(name + ": 2 to the 16th", then(four, x -> x.size(2)), by1, NOT);
        Probe.refused(name + ": 2 to the 36th", then(four, x -> x.size(3)), by1, NOT);
        Probe.refused(name + ": 10 to the 36th", then(four, x -> x.size(3)), by9, NOT);
        States.State three = with("a>b");
        Probe.refused(name + ": 3 to the 12th", then(three, x -> x.size(2)), by2, NOT);
        States.State two = then(x -> x.signs(2), with("a>b"));
        Probe.refused(name + ": 2 to the 18th", then(two, x -> x.size(3)), by1, NOT);
        Probe.refused(name + ": 10 to the 8th", then(two, x -> x.size(2)), by9, NOT);
        States.State one = then(x -> x.signs(1), with("aa>a"));
        Probe.refused(name + ": 3 to the 9th", then(one, x -> x.size(3)), by2, NOT);
        Probe.refused(name + ": 10 to the 4th, one sign", then(one, x -> x.size(2)), by9, NOT);
        Probe.refused(name + ": NOT though nothing is there to find", States::full, by1, NOT);
        Probe.refused(name + ": NOT by ARCTIC", then(then(one, x -> x.size(3)), x -> x.ring(2)), by2, NOT);
    }

    private static void auto() {
        for (int b : Probe.beyond(1, 9)) {
            bad("auto(" + b + ")", x -> x.auto(b));
        }
        refusedTries("auto", x -> x.auto(1), x -> x.auto(2), x -> x.auto(9));
        States.State never = with("a>a");
        for (int b = 1; b <= 9; b++) {
            int each = b;
            Probe.refused("auto(" + b + ") of no rules", States::fresh, x -> x.auto(each), 0);
            Probe.refused("auto(" + b + ") finds none", never, x -> x.auto(each), 0);
        }
        Probe.refused("auto, all are removed", then(States::eightStages, x -> x.size(1)), x -> x.auto(8), 0);
    }

    private static void word() {
        String[] texts = {">", "=", "d", "abd", "a>b", "abcabcabcabcabcabcad", "abcabcabcabcabcabca\u0000",
            "dddddddddddddddddddd", "`", "A", "\u00ff"};
        int[] places = {0, 0, 0, 2, 1, 19, 19, 0, 0, 0, 0};
        for (int k = 0; k < texts.length; k++) {
            Probe.refused("word " + texts[k], typed(States::fresh, texts[k]), x -> x.word(), -1000 - places[k]);
            Probe.refused("word 1 " + texts[k], typed(States::busy, texts[k]), x -> x.word(), -1000 - places[k]);
        }
        Probe.refused("word, full", States::full, x -> x.word(), -1019);
    }

    private static void step() {
        Probe.refused("step of a new one", States::fresh, x -> x.step(), NOT);
        Probe.refused("step of no word", States::eightStages, x -> x.step(), NOT);
        Probe.refused("step with no rules", x -> Check.word(x, "abc"), x -> x.step(), NOT);
        Probe.refused("step, nowhere", then(with("aa>", "abc>"), x -> Check.word(x, "abab")), x -> x.step(), NOT);
        Probe.refused("step, longer than the word", then(with("abcabc>"), x -> Check.word(x, "abcab")), x -> x.step(),
            NOT);
        Probe.refused("step, 29 signs", States::full, x -> x.step(), FULL);
        States.State to25 = then(with("a>bbbbbb", "b>"), x -> Check.word(x, "bbbbbbbbbbbbbbbbbbba"));
        Probe.refused("step, 25 signs, though the next rule has room", to25, x -> x.step(), FULL);
        Probe.refused("run, 25 signs", to25, x -> x.run(40), 0);
    }

    private static void run() {
        for (int n : Probe.beyond(0, 40)) {
            bad("run(" + n + ")", x -> x.run(n));
        }
        for (int n : new int[] {0, 1, 40}) {
            Probe.refused("run(" + n + ") with no room", States::full, x -> x.run(n), 0);
            Probe.refused("run(" + n + ") of nothing", States::fresh, x -> x.run(n), 0);
        }
        Probe.refused("run(0)", States::busy, x -> x.run(0), 0);
    }

    private static void letter() {
        for (int k : Probe.beyond(-1, 23)) {
            bad("letter(" + k + ")", x -> x.letter(k));
        }
    }

    private static void measure() {
        for (int k : Probe.beyond(-1, 7)) {
            bad("measure(" + k + ")", x -> x.measure(k));
        }
        Probe.refused("measure of no stage", States::eightRules, x -> x.measure(0), BAD);
        Probe.refused("measure: just behind the last", States::busy, x -> x.measure(2), BAD);
        States.State much = then(with("a>"), x -> {
            x.enter(0, 0, 0, 999);
            x.stage();
            Check.word(x, "aaaa");
        });
        Probe.refused("measure(-1), OVER", much, x -> x.measure(-1), OVER);
        Probe.refused("measure(0), OVER", much, x -> x.measure(0), OVER);
        Probe.refused("measure: BAD ahead of OVER", much, x -> x.measure(1), BAD);
    }

    private static void sheet() {
        for (int each : Probe.beyond(0, 3)) {
            bad("sheet " + each, x -> x.sheet(each, 0, 1));
            bad("sheet " + each + ": BAD ahead of SIZE", x -> x.sheet(each, 0, -1));
        }
        for (int each : Probe.beyond(0, 2)) {
            bad("sheet, form " + each, x -> x.sheet(0, each, 1));
            bad("sheet, form " + each + ": BAD ahead of SIZE", x -> x.sheet(0, each, -1));
        }
        for (int n : new int[] {61, Integer.MAX_VALUE}) {
            bad("sheet of " + n, x -> x.sheet(0, 0, n));
        }
        for (int n : new int[] {-1, Integer.MIN_VALUE}) {
            Probe.refused("sheet of " + n + ", lost", States::fresh, x -> x.sheet(0, 0, n), SIZE);
            Probe.refused("sheet of " + n + ", busy", States::busy, x -> x.sheet(1, 1, n), SIZE);
            Probe.refused("sheet of " + n + ", full", States::full, x -> x.sheet(3, 2, n), SIZE);
        }
    }

    private static void lose() {
        for (int each : Probe.beyond(0, 3)) {
            bad("lose(" + each + ")", x -> x.lose(each));
        }
        for (int s = 0; s < 4; s++) {
            int each = s;
            Probe.refused("lose(" + s + "), lost", States::fresh, x -> x.lose(each), NULL);
        }
        Probe.refused("lose(3), lost", States::busy, x -> x.lose(3), NULL);
        Probe.refused("lose(3), lost again", then(States::full, x -> x.lose(3)), x -> x.lose(3), NULL);
    }

    private static void lay() {
        for (int each : Probe.beyond(0, 3)) {
            bad("lay, sheet " + each, x -> x.lay(each, 0, 0, 5));
        }
        for (int each : Probe.beyond(0, 2)) {
            bad("lay, form " + each + ", ahead of NULL", x -> x.lay(3, each, 0, 5));
            bad("lay, form " + each + ", ahead of INDEX", x -> x.lay(0, each, -1, 5));
        }
        for (int form = 0; form < 3; form++) {
            int f = form;
            int other = (form + 1) % 3;
            Probe.refused("lay, lost", States::busy, x -> x.lay(3, f, 0, 5), NULL);
            Probe.refused("lay: NULL ahead of INDEX", States::busy, x -> x.lay(3, f, -1, 5), NULL);
            Probe.refused("lay, another form", States::busy, x -> x.lay(f, other, 0, 5), CAST);
            Probe.refused("lay, a third form", States::busy, x -> x.lay(f, (f + 2) % 3, 0, 5), CAST);
            Probe.refused("lay: CAST ahead of INDEX", States::busy, x -> x.lay(f, other, -1, 5), CAST);
            for (int i : Probe.beyond(0, 4 - f)) {
                Probe.refused("lay, item " + i + " of " + (5 - f), States::busy, x -> x.lay(f, f, i, 5), INDEX);
            }
            Probe.refused("lay, item 60 of 60", States::full, x -> x.lay(f, f, 60, 5), INDEX);
            Probe.refused("lay, no items", x -> x.sheet(0, f, 0), x -> x.lay(0, f, 0, 5), INDEX);
        }
    }

    private static void get() {
        for (States.State state : new States.State[] {States::fresh, States::busy, States::full}) {
            for (int each : Probe.beyond(0, 3)) {
                Probe.refused("get, sheet " + each, state, x -> x.get(each, 0, 0), LEAST, 0);
            }
            for (int each : Probe.beyond(0, 2)) {
                Probe.refused("get, form " + each + ", ahead of NULL", state, x -> x.get(3, each, 0), LEAST, 0);
                Probe.refused("get, form " + each + ", ahead of INDEX", state, x -> x.get(0, each, -1), LEAST, 0);
            }
        }
        for (int form = 0; form < 3; form++) {
            int f = form;
            int other = (form + 1) % 3;
            Probe.refused("get, lost", States::busy, x -> x.get(3, f, 0), LEAST, 1);
            Probe.refused("get: NULL ahead of INDEX", States::busy, x -> x.get(3, f, -1), LEAST, 1);
            Probe.refused("get, another form", States::busy, x -> x.get(f, other, 0), LEAST, 3);
            Probe.refused("get, a third form", States::busy, x -> x.get(f, (f + 2) % 3, 0), LEAST, 3);
            Probe.refused("get: CAST ahead of INDEX", States::busy, x -> x.get(f, other, -1), LEAST, 3);
            for (int i : Probe.beyond(0, 4 - f)) {
                Probe.refused("get, item " + i + " of " + (5 - f), States::busy, x -> x.get(f, f, i), LEAST, 2);
            }
            Probe.refused("get, item 60 of 60", States::full, x -> x.get(f, f, 60), LEAST, 2);
            Probe.refused("get, no items", x -> x.sheet(0, f, 0), x -> x.get(0, f, 0), LEAST, 2);
        }
    }

    private static void copy() {
        for (int each : Probe.beyond(0, 3)) {
            bad("copy from " + each, x -> x.copy(each, 0, 0, 0, 1));
            bad("copy to " + each, x -> x.copy(0, 0, each, 0, 1));
            bad("copy from a lost one to " + each, x -> x.copy(3, -1, each, -1, -1));
        }
        Probe.refused("copy, s is lost", States::busy, x -> x.copy(3, 0, 0, 0, 0), NULL);
        Probe.refused("copy, t is lost", States::busy, x -> x.copy(0, 0, 3, 0, 0), NULL);
        Probe.refused("copy, both are lost", States::fresh, x -> x.copy(1, 0, 2, 0, 0), NULL);
        Probe.refused("copy, one lost to itself", States::fresh, x -> x.copy(1, 0, 1, 0, 0), NULL);
        Probe.refused("copy: NULL ahead of INDEX", States::busy, x -> x.copy(0, -1, 3, -1, -1), NULL);
        for (int s = 0; s < 3; s++) {
            for (int t = 0; t < 3; t++) {
                int from = s;
                int to = t;
                if (s != t) {
                    Probe.refused("copy, unlike forms", States::busy, x -> x.copy(from, 0, to, 0, 1), STORE);
                    Probe.refused("copy of none, unlike forms", States::busy, x -> x.copy(from, 0, to, 0, 0), STORE);
                    Probe.refused("copy: STORE ahead of INDEX", States::busy, x -> x.copy(from, -1, to, 99, -1), STORE);
                }
            }
        }
        copyBeyondItems();
    }

    private static void copyBeyondItems() {
        States.State fiveAndThree = then(States::busy, x -> {
            x.sheet(3, 0, 3);
            x.lay(3, 0, 1, 9);
        });
        int most = Integer.MAX_VALUE;
        int[][] wrong = {{-1, 0, 1}, {0, -1, 1}, {0, 0, -1}, {-1, 0, 0}, {0, -1, 0}, {6, 0, 0}, {0, 4, 0}, {5, 0, 1},
            {0, 3, 1}, {3, 0, 3}, {0, 1, 3}, {0, 0, 4}, {0, 0, 6}, {most, 0, 1}, {0, most, 1}, {1, 0, most}, {0, 1, most},
            {most, most, most}, {most, 0, 0}, {0, most, 0}, {LEAST, 0, 0}, {0, LEAST, 0}, {0, 0, LEAST},
            {1, 0, LEAST}, {LEAST, 0, LEAST}, {LEAST, LEAST, LEAST}, {most, 0, LEAST}, {0, most, LEAST}};
        for (int[] w : wrong) {
            Probe.refused("copy " + w[0] + ", " + w[1] + ", " + w[2], fiveAndThree, x -> x.copy(0, w[0], 3, w[1], w[2]),
                INDEX);
        }
        Probe.refused("copy in one, one too many", States::full, x -> x.copy(0, 0, 0, 1, 60), INDEX);
        Probe.refused("copy, 61 of 60", States::full, x -> x.copy(0, 0, 3, 0, 61), INDEX);
        Probe.refused("copy of no items, from 1", x -> x.sheet(0, 2, 0), x -> x.copy(0, 1, 0, 0, 0), INDEX);
        Probe.refused("copy of no items, to 1", x -> x.sheet(0, 2, 0), x -> x.copy(0, 0, 0, 1, 0), INDEX);
        Probe.refused("copy of no items, one", x -> x.sheet(0, 2, 0), x -> x.copy(0, 0, 0, 0, 1), INDEX);
    }

    private static void write() {
        for (int each : Probe.beyond(0, 3)) {
            bad("write(" + each + ")", x -> x.write(each));
        }
        for (int s = 0; s < 4; s++) {
            int each = s;
            Probe.refused("write(" + s + "), lost", States::fresh, x -> x.write(each), NULL);
        }
        Probe.refused("write(3), lost", States::busy, x -> x.write(3), NULL);
        Probe.refused("write(2), lost again", then(States::full, x -> x.lose(2)), x -> x.write(2), NULL);
    }

    private static void count() {
        for (int what : Probe.beyond(0, 8)) {
            bad("count(" + what + ")", x -> x.count(what));
        }
    }
}
