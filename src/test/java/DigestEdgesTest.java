import java.math.BigInteger;
import java.util.ArrayList;
import java.util.List;

// Promise 37 at its bounds: objects that are empty and full, numbers that are OVER and NONE,
// longs that wrap; and which changes it tells.
public final class DigestEdgesTest {
    public static void main(String[] args) {
        ofEmptyAndFull();
        ofEachNumberOfSigns();
        ofValuesThatAreOver();
        ofValuesThatAreNone();
        ofTheGreatestNumbers();
        wraps();
        tellsOfFirstTwoRowsAlone();
        tellsNothingOfSheets();
        changesNothing();
        Check.end();
    }

    // The document's words once more, from the other calls, kept within 512 by objects of their own.
    private static long fromTheFace(States.State state) {
        List<Integer> all = new ArrayList<>();
        wholeAndRules(made(state), all);
        signsAndStages(made(state), all);
        long h = 17;
        for (int each : all) {
            h = 31 * h + each;
        }
        return h;
    }

    private static WordTerminator made(States.State state) {
        WordTerminator x = new WordTerminator();
        state.tell(x);
        return x;
    }

    private static void wholeAndRules(WordTerminator x, List<Integer> all) {
        for (int what = 0; what <= 7; what++) {
            all.add(x.count(what));
        }
        all.addAll(List.of(x.fault(0), x.fault(1), x.sound(), x.ends()));
        for (int i = 0; i < x.count(0); i++) {
            for (int what = 0; what <= 5; what++) {
                all.add(x.info(i, what));
            }
            all.addAll(List.of(x.side(i, 0, -1), x.side(i, 0, 0), x.side(i, 1, -1), x.value(i, 0, 0, 0)));
        }
    }

    private static void signsAndStages(WordTerminator x, List<Integer> all) {
        for (int sign = 0; x.entry(sign, 0, 0) != -2; sign++) {
            all.addAll(List.of(x.entry(sign, 0, 0), x.entry(sign, 0, 1), x.entry(sign, 1, 0), x.entry(sign, 1, 1)));
        }
        for (int k = 0; k < x.count(2); k++) {
            for (int what = 0; what <= 3; what++) {
                all.add(x.stages(k, what));
            }
            all.addAll(List.of(x.measure(k), x.kept(k, 0, 0, 0)));
        }
        all.add(x.measure(-1));
        for (int k = -1; k <= 23; k++) {
            all.add(x.letter(k));
        }
    }

    private static void told(String what, States.State state) {
        Check.due(what, made(state).digest(), fromTheFace(state));
    }

    private static void ofEmptyAndFull() {
        told("new", States::fresh);
        told("busy", States::busy);
        told("full", States::full);
        told("eight rules", States::eightRules);
        told("eight stages", States::eightStages);
        told("a full text that is a word", x -> Check.type(x, "abcabcabcabcabcabcab"));
        told("a full text that is none", x -> Check.type(x, "abcabcabcabcabcabca>"));
    }

    private static void ofEachNumberOfSigns() {
        for (int m = 1; m <= 4; m++) {
            int n = m;
            told(m + " signs", x -> x.signs(n));
        }
    }

    private static void ofValuesThatAreOver() {
        States.State over = x -> {
            Check.rule(x, "aaaa>");
            Check.rule(x, "b>");
            x.enter(1, 0, 0, 2);
            x.stage();
            x.enter(0, 0, 0, 999);
            Check.word(x, "aaaab");
        };
        Check.due("value is OVER", made(over).value(0, 0, 0, 0), -5);
        Check.due("measure is OVER", made(over).measure(-1), -5);
        told("OVER", over);
        States.State byTheStage = x -> {
            Check.rule(x, "a>");
            x.enter(0, 0, 0, 999);
            x.stage();
            Check.word(x, "aaaa");
            x.enter(0, 0, 0, 1);
        };
        Check.due("measure by the stage is OVER", made(byTheStage).measure(0), -5);
        told("OVER by the stage", byTheStage);
    }

    private static void ofValuesThatAreNone() {
        States.State none = x -> {
            Check.rule(x, "a>b");
            Check.word(x, "ab");
            x.ring(2);
            x.enter(0, 0, 0, -1);
        };
        Check.due("value is NONE", made(none).value(0, 0, 0, 0), -1);
        Check.due("measure is NONE", made(none).measure(-1), -1);
        told("NONE", none);
    }

    private static void ofTheGreatestNumbers() {
        States.State greatest = x -> {
            Limits.rule(x, "abcd=a", 280);
            Check.word(x, "abcd");
        };
        Check.due("the greatest value", made(greatest).value(0, 0, 0, 0), 2147483647);
        told("the greatest value", greatest);
        States.State measured = x -> {
            x.signs(4);
            Check.word(x, "abcd");
            Limits.measured(x, 280);
        };
        Check.due("the greatest measure", made(measured).measure(-1), 2147483647);
        told("the greatest measure", measured);
    }

    // 31 to the thirteenth is above the greatest long, and a new object tells 50 numbers.
    private static void wraps() {
        BigInteger whole = BigInteger.valueOf(17);
        int[] numbers = new int[50];
        int[] ahead = {0, 0, 0, 0, 0, 0, 0, 0, 0, -1, 1, 1, 1, -1, -1, 1, 1, -1, -1, 1, 1, -1, -1, 1, 1, 0};
        System.arraycopy(ahead, 0, numbers, 0, ahead.length);
        for (int k = ahead.length; k < numbers.length; k++) {
            numbers[k] = -1;
        }
        for (int number : numbers) {
            whole = whole.multiply(BigInteger.valueOf(31)).add(BigInteger.valueOf(number));
        }
        Check.holds("it is more than a long has", whole.bitLength() > 64);
        Check.due("new, wrapped", new WordTerminator().digest(), whole.longValue());
    }

    private static void tellsOfFirstTwoRowsAlone() {
        long fresh = new WordTerminator().digest();
        for (int e = 0; e < 27; e++) {
            WordTerminator x = new WordTerminator();
            boolean near = e / 3 % 3 < 2 && e % 3 < 2;
            x.enter(e / 9, e / 3 % 3, e % 3, 3);
            Check.holds("entry " + e + (near ? " is told" : " is not told"), (x.digest() != fresh) == near);
        }
    }

    private static void tellsNothingOfSheets() {
        WordTerminator x = new WordTerminator();
        long fresh = x.digest();
        x.sheet(0, 2, 60);
        x.lay(0, 2, 59, 5);
        x.lose(1);
        Check.due("sheets and findings are no part of it", x.digest(), fresh);
    }

    private static void changesNothing() {
        for (States.State state : new States.State[] {States::fresh, States::busy, States::full}) {
            Probe.alike("digest", state, x -> {
                state.tell(x);
                x.digest();
            });
            WordTerminator y = made(state);
            y.lose(-1);
            y.sheet(0, 0, -1);
            y.digest();
            Check.due("nor the latest finding", y.count(8), 5);
        }
    }
}
