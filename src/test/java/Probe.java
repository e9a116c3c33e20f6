import java.util.ArrayList;
import java.util.Arrays;
import java.util.List;

// Asks a call that must be refused, and looks by all calls of the face whether anything changed:
// an object that was asked must answer as one that was not. Each look is at objects of its own,
// so that none is used for more than 512 calls.
final class Probe {
    interface Call {
        int ask(WordTerminator x);
    }

    private interface Look {
        void at(WordTerminator x, List<Integer> seen);
    }

    private static final List<Look> LOOKS = looks();

    private Probe() {
    }

    /** A refusal; an answer of -11 to -15 is a finding, which count() 8 tells then. */
    static void refused(String what, States.State state, Call call, int want) {
        boolean finding = want <= -11 && want >= -15;
        refused(what, state, call, want, finding ? -10 - want : 0);
    }

    /** A refusal with the number of the finding that count() 8 tells then; 0: it stays as it was. */
    static void refused(String what, States.State state, Call call, int want, int finding) {
        for (int before : new int[] {0, 5}) {
            States.State whole = before == 0 ? state : x -> {
                state.tell(x);
                x.sheet(0, 0, -1);
            };
            WordTerminator asked = made(whole);
            int latest = asked.count(8);
            Check.due(what, call.ask(asked), want);
            Check.due(what + ": latest finding", asked.count(8), finding == 0 ? latest : finding);
            Check.due(what + ": digest", asked.digest(), made(whole).digest());
            Check.due(what + ": once more", call.ask(asked), want);
        }
        for (Look look : LOOKS) {
            WordTerminator asked = made(state);
            call.ask(asked);
            if (!seen(look, asked).equals(seen(look, made(state)))) {
                Check.holds(what + " changes nothing", false);
            }
        }
    }

    /** Whether two objects, each made anew for each look, answer alike but for the latest finding. */
    static void alike(String what, States.State one, States.State other) {
        Check.due(what + ": digest", made(one).digest(), made(other).digest());
        for (Look look : LOOKS) {
            Check.holds(what, seen(look, made(one)).equals(seen(look, made(other))));
        }
    }

    /** What lies just beyond the bounds, and far. */
    static int[] beyond(int least, int greatest) {
        return new int[] {least - 1, greatest + 1, Integer.MIN_VALUE, Integer.MAX_VALUE};
    }

    private static WordTerminator made(States.State state) {
        WordTerminator x = new WordTerminator();
        state.tell(x);
        return x;
    }

    private static List<Integer> seen(Look look, WordTerminator x) {
        List<Integer> seen = new ArrayList<>();
        look.at(x, seen);
        return seen;
    }

    private static List<Look> looks() {
        List<Look> all = new ArrayList<>(Arrays.asList(Probe::rules, Probe::values, Probe::stages, Probe::textAsWord,
            Probe::textAsRule));
        for (int k = 0; k < 8; k++) {
            int stage = k;
            all.add((x, seen) -> kept(x, stage, seen));
        }
        for (int s = 0; s < 4; s++) {
            int sheet = s;
            all.add((x, seen) -> sheet(x, sheet, seen));
        }
        return all;
    }

    private static void rules(WordTerminator x, List<Integer> seen) {
        for (int what = 0; what < 8; what++) {
            seen.add(x.count(what));
        }
        seen.addAll(List.of(x.fault(0), x.fault(1), x.sound(), x.ends()));
        for (int i = 0; i < 8; i++) {
            for (int what = 0; what < 6; what++) {
                seen.add(x.info(i, what));
            }
            for (int k = -1; k < 6; k++) {
                seen.addAll(List.of(x.side(i, 0, k), x.side(i, 1, k)));
            }
        }
        for (int k = -1; k < 24; k++) {
            seen.add(x.letter(k));
        }
        seen.addAll(List.of(x.ring(0), x.size(1)));
    }

    private static void values(WordTerminator x, List<Integer> seen) {
        for (int e = 0; e < 36; e++) {
            seen.add(x.entry(e / 9, e / 3 % 3, e % 3));
        }
        for (int i = 0; i < 8; i++) {
            for (int e = 0; e < 9; e++) {
                seen.addAll(List.of(x.value(i, 0, e / 3, e % 3), x.value(i, 1, e / 3, e % 3)));
            }
        }
    }

    private static void stages(WordTerminator x, List<Integer> seen) {
        for (int k = -1; k < 8; k++) {
            seen.add(x.measure(k));
            for (int what = 0; what < 4; what++) {
                seen.add(x.stages(k, what));
            }
        }
    }

    private static void kept(WordTerminator x, int k, List<Integer> seen) {
        for (int e = 0; e < 36; e++) {
            seen.add(x.kept(k, e / 9, e / 3 % 3, e % 3));
        }
    }

    private static void textAsWord(WordTerminator x, List<Integer> seen) {
        seen.add(x.word());
        for (int k = -1; k < 24; k++) {
            seen.add(x.letter(k));
        }
        seen.addAll(List.of(x.wipe(), x.count(5), x.signs(1)));
    }

    private static void textAsRule(WordTerminator x, List<Integer> seen) {
        while (x.back() > 0) {
            seen.add(x.count(1));
        }
        seen.add(x.drop(0));
        int i = x.rule();
        seen.add(i);
        for (int k = -1; k < 6; k++) {
            seen.addAll(List.of(x.side(i, 0, k), x.side(i, 1, k)));
        }
        seen.addAll(List.of(x.info(i, 0), x.count(6)));
    }

    private static void sheet(WordTerminator x, int s, List<Integer> seen) {
        for (int form = 0; form < 3; form++) {
            for (int i = -1; i <= 60; i++) {
                seen.add(x.get(s, form, i));
            }
        }
        seen.add(x.lose(s));
    }
}
