import java.lang.reflect.Method;
import java.util.ArrayList;
import java.util.List;
import java.util.Random;

// Random runs (from fixed seeds) on the class and on the model: each answer, and the digest
// behind each act, must be alike. All promises; 37 above all.
public final class ModelRunsTest {
    private static final int RUNS = 700;
    private static final int MOST_CALLS = 512;
    private static final int[] ODD = {-1, -2, Integer.MIN_VALUE, Integer.MAX_VALUE, 1000, 256, 61};

    private final Random random;
    private final WordTerminator real = new WordTerminator();
    private final Model model = new Model();
    private final List<String> calls = new ArrayList<>();
    private boolean alike = true;
    private int searches = 0;

    private ModelRunsTest(long seed) {
        random = new Random(seed);
    }

    public static void main(String[] args) throws Exception {
        for (int seed = 0; seed < RUNS; seed++) {
            ModelRunsTest test = new ModelRunsTest(seed);
            test.go();
            Check.holds("run " + seed + ": the class answers as the model", test.alike);
        }
        Check.end();
    }

    private void go() throws Exception {
        ask("digest");
        if (random.nextInt(4) == 0) {
            startFull();
        } else {
            startWithSome();
        }
        for (int s = 0; s < 4; s++) {
            ask("sheet", s, random.nextInt(4) == 0 ? s % 3 : 1, random.nextInt(6));
        }
        while (alike && calls.size() < MOST_CALLS - 30) {
            act(random.nextInt(20));
            ask("digest");
        }
    }

    private void startWithSome() throws Exception {
        if (random.nextInt(3) == 0) {
            ask("signs", random.nextInt(4) + 1);
        }
        int told = random.nextInt(7);
        for (int i = 0; i < told; i++) {
            tellRule();
        }
    }

    // Four signs, eight rules, four stages and a word of 24 signs.
    private void startFull() throws Exception {
        ask("signs", 4);
        for (String text : States.EIGHT) {
            type(text);
            ask("rule");
        }
        for (int sign : new int[] {3, 0, 1, 2}) {
            ask("enter", sign, 0, 0, 2);
            ask("stage");
            ask("enter", sign, 0, 0, 1);
        }
        type("abcabcabcabddd");
        ask("word");
        ask("run", 2);
    }

    private void ask(String name, int... args) throws Exception {
        if (!alike || calls.size() >= MOST_CALLS) {
            return;
        }
        Class<?>[] types = new Class<?>[args.length];
        Object[] boxed = new Object[args.length];
        StringBuilder call = new StringBuilder(name);
        for (int k = 0; k < args.length; k++) {
            types[k] = int.class;
            boxed[k] = args[k];
            call.append(' ').append(args[k]);
        }
        Method onReal = WordTerminator.class.getMethod(name, types);
        Method onModel = Model.class.getMethod(name, types);
        long got = ((Number) onReal.invoke(real, boxed)).longValue();
        long want = ((Number) onModel.invoke(model, boxed)).longValue();
        calls.add(call + " -> " + got);
        if (got != want) {
            alike = false;
            System.out.println(String.join("\n", calls));
            System.out.println("due is " + want);
        }
    }

    private void act(int which) throws Exception {
        switch (which) {
            case 0 -> tellRule();
            case 1, 2 -> {
                clearMostly();
                type(letters(0, 20));
                ask("word");
            }
            case 3 -> ask("enter", arg(0, 3), arg(0, 2), arg(0, 2), entry());
            case 4, 5 -> tellMatrices();
            case 6, 7 -> ask("stage");
            case 8 -> stagesAnew();
            case 9 -> lookAtRules();
            case 10 -> lookAtStages();
            case 11 -> ask("run", arg(0, 40));
            case 12 -> ask("step");
            case 13, 14 -> onSheets();
            case 15 -> look();
            case 16 -> ask(random.nextBoolean() ? "ring" : "size", arg(0, 3));
            case 17 -> rare();
            case 18 -> searches();
            default -> ask("type", random.nextInt(4) == 0 ? arg(0, 255) : "ab>c=d".charAt(random.nextInt(6)));
        }
    }

    private void tellRule() throws Exception {
        clearMostly();
        type(ruleText());
        ask("rule");
    }

    private void clearMostly() throws Exception {
        if (random.nextInt(12) != 0) {
            ask("wipe");
        }
    }

    private int aRule() {
        return arg(0, Math.max(0, model.count(0) - 1));
    }

    private int aStage() {
        return arg(0, Math.max(0, model.count(2) - 1));
    }

    private void type(String text) throws Exception {
        for (char c : text.toCharArray()) {
            ask("type", c);
        }
    }

    private String letters(int least, int most) {
        StringBuilder made = new StringBuilder();
        int n = least + random.nextInt(most - least + 1);
        for (int k = 0; k < n; k++) {
            made.append((char) ('a' + random.nextInt(random.nextInt(60) == 0 ? 4 : 3)));
        }
        return made.toString();
    }

    private String ruleText() {
        boolean longer = random.nextInt(8) == 0;
        String left = letters(random.nextInt(20) == 0 ? 0 : 1, longer ? 7 : 3);
        String right = letters(0, longer ? 7 : random.nextInt(4) == 0 ? left.length() + 1 : left.length());
        return left + (random.nextBoolean() ? ">" : "=") + right;
    }

    private int arg(int low, int high) {
        if (random.nextInt(25) == 0) {
            return ODD[random.nextInt(ODD.length)];
        }
        return low + random.nextInt(high - low + 1);
    }

    private int entry() {
        int kind = random.nextInt(12);
        return kind == 0 ? 999 : kind == 1 ? random.nextInt(1000) : kind == 2 ? arg(0, 1000) : random.nextInt(5) - 1;
    }

    private void tellMatrices() throws Exception {
        int kind = random.nextInt(8);
        int size = kind == 0 ? 3 : kind <= 3 ? 2 : 1;
        ask("size", size);
        for (int sign = 0; sign < 3; sign++) {
            for (int e = 0; e < size * size; e++) {
                int low = e == 0 || e == size * size - 1 ? 1 : -1;
                ask("enter", sign, e / size, e % size, low + random.nextInt(3));
            }
        }
        ask("stage");
    }

    private void stagesAnew() throws Exception {
        if (model.count(2) < 2 || random.nextInt(4) == 0) {
            ask("back");
        } else {
            ask("swap", arg(0, model.count(2) - 2));
        }
    }

    private void lookAtRules() throws Exception {
        ask("side", aRule(), arg(0, 1), arg(-1, 6));
        ask("info", aRule(), arg(0, 6));
        ask("value", aRule(), arg(0, 1), arg(0, 1), arg(0, 1));
        ask("entry", arg(0, 3), arg(0, 2), arg(0, 2));
        ask("sound");
        ask("fault", arg(0, 1));
    }

    private void lookAtStages() throws Exception {
        ask("stages", aStage(), arg(0, 4));
        ask("kept", aStage(), arg(0, 3), arg(0, 2), arg(0, 2));
        ask("measure", random.nextBoolean() ? -1 : aStage());
        ask("ends");
    }

    private void look() throws Exception {
        ask("letter", arg(-1, 24));
        ask("count", arg(0, 9));
        ask("count", 8);
    }

    private void rare() throws Exception {
        switch (random.nextInt(6)) {
            case 0 -> ask("wipe");
            case 1 -> ask("drop", arg(0, 3));
            case 2 -> ask("signs", arg(1, 4));
            case 3 -> ask("word");
            case 4 -> ask("rule");
            default -> ask("search", 0);
        }
    }

    // The model reckons slowly, so a run has few of these.
    private void searches() throws Exception {
        if (searches < 3) {
            searches++;
            ask(random.nextBoolean() ? "search" : "auto", random.nextInt(5) == 0 ? arg(1, 9) : 1 + random.nextInt(3));
        }
    }

    private void onSheets() throws Exception {
        int s = arg(0, 3);
        int form = random.nextInt(3) == 0 ? arg(0, 2) : 1;
        switch (random.nextInt(8)) {
            case 0 -> ask("sheet", s, form, arg(0, random.nextBoolean() ? 5 : 61));
            case 1 -> ask(random.nextInt(3) == 0 ? "lose" : "write", s);
            case 2, 3 -> {
                ask("lay", s, form, arg(0, 5), random.nextInt(4) == 0 ? random.nextInt() : entry());
                ask("read", arg(0, 3), s);
            }
            case 4 -> ask("get", s, form, arg(0, 5));
            case 5, 6 -> ask("copy", s, arg(0, 5), arg(0, 3), arg(0, 5), arg(0, 5));
            default -> ask("write", s);
        }
        ask("count", 8);
        ask("get", arg(0, 3), form, arg(0, 3));
    }
}
