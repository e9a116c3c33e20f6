import java.math.BigInteger;
import java.util.ArrayList;
import java.util.List;
import java.util.TreeSet;
import java.util.function.BiFunction;
import java.util.regex.Matcher;
import java.util.regex.Pattern;

// The document told once more, as literally and as unlike the class as may be: words are
// Strings, numbers BigIntegers, NONE is null, tries are reckoned from their numbers.
public final class Model {
    private static final int NONE = -1, BAD = -2, NOT = -3, FULL = -4, OVER = -5;
    private static final BigInteger LIMIT = BigInteger.valueOf(2147483647);

    private static final class Rule {
        String left;
        String right;
        boolean strict;
        int uses;
    }

    private record Reading(int ring, int size, int[][][] entries) {
        Reading copied() {
            int[][][] own = new int[4][3][];
            for (int sign = 0; sign < 4; sign++) {
                for (int x = 0; x < 3; x++) {
                    own[sign][x] = entries[sign][x].clone();
                }
            }
            return new Reading(ring, size, own);
        }
    }

    private record Stage(Reading by, TreeSet<Integer> removed) {
    }

    private int m = 3;
    private String text = "";
    private String word = "";
    private int steps = 0;
    private int finding = 0;
    private Reading now;
    private final List<Rule> rules = new ArrayList<>();
    private List<Stage> laid = new ArrayList<>();
    private final Object[] sheets = new Object[4];

    public Model() {
        int[][][] entries = new int[4][3][3];
        for (int[][] matrix : entries) {
            for (int x = 0; x < 3; x++) {
                for (int y = 0; y < 3; y++) {
                    matrix[x][y] = x == y ? 1 : NONE;
                }
            }
        }
        now = new Reading(0, 1, entries);
    }

    private static boolean in(int v, int low, int high) {
        return low <= v && v <= high;
    }

    private boolean noRule(int i) {
        return !in(i, 0, rules.size() - 1);
    }

    private boolean noStage(int k) {
        return !in(k, 0, laid.size() - 1);
    }

    public int signs(int n) {
        if (!in(n, 1, 4)) {
            return BAD;
        }
        if (!rules.isEmpty() || !word.isEmpty()) {
            return NOT;
        }
        int was = m;
        m = n;
        return was;
    }

    public int type(int b) {
        if (!in(b, 0, 255)) {
            return BAD;
        }
        if (text.length() == 20) {
            return FULL;
        }
        text += (char) b;
        return text.length();
    }

    public int wipe() {
        int had = text.length();
        text = "";
        return had;
    }

    private String anySign() {
        return "[a-" + (char) ('a' + m - 1) + "]";
    }

    private int ruleFault() {
        Pattern pattern = Pattern.compile(anySign() + "{1,6}[>=]" + anySign() + "{0,6}");
        for (int p = 0; p < text.length(); p++) {
            Matcher beginning = pattern.matcher(text.substring(0, p + 1));
            if (!beginning.matches() && !beginning.hitEnd()) {
                return p;
            }
        }
        return pattern.matcher(text).matches() ? NONE : text.length();
    }

    private int wordFault() {
        int signsAhead = text.length() - text.replaceFirst("^" + anySign() + "*", "").length();
        return signsAhead == text.length() ? NONE : signsAhead;
    }

    public int fault(int what) {
        return what == 0 ? ruleFault() : what == 1 ? wordFault() : BAD;
    }

    public int rule() {
        if (!laid.isEmpty()) {
            return NOT;
        }
        if (rules.size() == 8) {
            return FULL;
        }
        if (ruleFault() != NONE) {
            return -1000 - ruleFault();
        }
        Rule told = new Rule();
        String[] sides = text.split("[>=]", -1);
        told.left = sides[0];
        told.right = sides[1];
        told.strict = text.contains(">");
        rules.add(told);
        text = "";
        return rules.size() - 1;
    }

    public int drop(int i) {
        if (noRule(i)) {
            return BAD;
        }
        if (!laid.isEmpty()) {
            return NOT;
        }
        rules.remove(i);
        return rules.size();
    }

    private static int howManyOrOne(String row, int k) {
        return k == NONE ? row.length() : k < row.length() ? row.charAt(k) - 'a' : NONE;
    }

    public int side(int i, int s, int k) {
        if (noRule(i) || !in(s, 0, 1) || !in(k, -1, 5)) {
            return BAD;
        }
        return howManyOrOne(s == 0 ? rules.get(i).left : rules.get(i).right, k);
    }

    private TreeSet<Integer> removed() {
        TreeSet<Integer> all = new TreeSet<>();
        for (Stage stage : laid) {
            all.addAll(stage.removed);
        }
        return all;
    }

    private int removedBy(int i) {
        for (int k = 0; k < laid.size(); k++) {
            if (laid.get(k).removed.contains(i)) {
                return k;
            }
        }
        return NONE;
    }

    private int places(String part) {
        int places = 0;
        for (int at = word.indexOf(part); at >= 0; at = word.indexOf(part, at + 1)) {
            places++;
        }
        return places;
    }

    public int info(int i, int what) {
        if (noRule(i) || !in(what, 0, 5)) {
            return BAD;
        }
        Rule of = rules.get(i);
        int[] told = {of.strict ? 1 : 0, removedBy(i), of.uses, weak(of, now) ? 1 : 0, falls(of, now) ? 1 : 0,
            places(of.left)};
        return told[what];
    }

    public int ring(int v) {
        if (!in(v, 0, 2)) {
            return BAD;
        }
        int was = now.ring;
        now = new Reading(v, now.size, now.entries);
        return was;
    }

    public int size(int n) {
        if (!in(n, 1, 3)) {
            return BAD;
        }
        int was = now.size;
        now = new Reading(now.ring, n, now.entries);
        return was;
    }

    public int enter(int sign, int x, int y, int v) {
        int was = entry(sign, x, y);
        if (was == BAD || !in(v, -1, 999)) {
            return BAD;
        }
        now.entries[sign][x][y] = v;
        return was;
    }

    public int entry(int sign, int x, int y) {
        return in(sign, 0, m - 1) && in(x, 0, 2) && in(y, 0, 2) ? now.entries[sign][x][y] : BAD;
    }

    private int found(int number) {
        finding = number;
        return -10 - number;
    }

    public int read(int sign, int s) {
        if (!in(sign, 0, m - 1) || !in(s, 0, 3)) {
            return BAD;
        }
        if (sheets[s] == null) {
            return found(1);
        }
        int told = 0;
        while (told < now.size * now.size && told < items(s) && in(item(s, told), -1, 999)) {
            now.entries[sign][told / now.size][told % now.size] = item(s, told);
            told++;
        }
        return told;
    }

    private boolean sound(Reading by) {
        for (int sign = 0; sign < m; sign++) {
            int first = by.entries[sign][0][0];
            int last = by.entries[sign][by.size - 1][by.size - 1];
            if (by.ring == 0 ? first < 1 || last < 1 : first == NONE) {
                return false;
            }
        }
        return true;
    }

    public int sound() {
        return sound(now) ? 1 : 0;
    }

    private static BigInteger sum(Reading by, BigInteger p, BigInteger q) {
        if (by.ring == 0) {
            return p.add(q);
        }
        if (p == null || q == null) {
            return p == null ? q : p;
        }
        return by.ring == 1 ? p.min(q) : p.max(q);
    }

    private static BigInteger product(Reading by, BigInteger p, BigInteger q) {
        if (by.ring == 0) {
            return p.multiply(q);
        }
        return p == null || q == null ? null : p.add(q);
    }

    private static BigInteger[][] filled(int size, BiFunction<Integer, Integer, BigInteger> cell) {
        BigInteger[][] made = new BigInteger[size][size];
        for (int x = 0; x < size; x++) {
            for (int y = 0; y < size; y++) {
                made[x][y] = cell.apply(x, y);
            }
        }
        return made;
    }

    private static BigInteger[][] matrix(Reading by, int sign) {
        BigInteger none = by.ring == 0 ? BigInteger.ZERO : null;
        return filled(by.size, (x, y) -> {
            int entry = by.entries[sign][x][y];
            return entry == NONE ? none : BigInteger.valueOf(entry);
        });
    }

    // null where the value is OVER.
    private static BigInteger[][] value(Reading by, String row) {
        BigInteger none = by.ring == 0 ? BigInteger.ZERO : null;
        BigInteger one = by.ring == 0 ? BigInteger.ONE : BigInteger.ZERO;
        if (row.isEmpty()) {
            return filled(by.size, (x, y) -> x.equals(y) ? one : none);
        }
        BigInteger[][] ahead = value(by, row.substring(0, row.length() - 1));
        if (ahead == null) {
            return null;
        }
        BigInteger[][] last = matrix(by, row.charAt(row.length() - 1) - 'a');
        BigInteger[][] made = filled(by.size, (x, y) -> {
            BigInteger all = none;
            for (int z = 0; z < by.size; z++) {
                all = sum(by, all, product(by, ahead[x][z], last[z][y]));
            }
            return all;
        });
        for (BigInteger[] line : made) {
            for (BigInteger number : line) {
                if (by.ring == 0 && number.compareTo(LIMIT) > 0) {
                    return null;
                }
            }
        }
        return made;
    }

    private static int compare(Reading by, BigInteger p, BigInteger q) {
        if (p != null && q != null) {
            return p.compareTo(q);
        }
        if (p == null && q == null) {
            return 0;
        }
        return (p == null) == (by.ring == 1) ? 1 : -1;
    }

    private static boolean weak(Rule of, Reading by) {
        BigInteger[][] left = value(by, of.left);
        BigInteger[][] right = value(by, of.right);
        if (left == null || right == null) {
            return false;
        }
        boolean weak = true;
        for (int x = 0; x < by.size; x++) {
            for (int y = 0; y < by.size; y++) {
                weak &= compare(by, left[x][y], right[x][y]) >= 0;
            }
        }
        return weak;
    }

    private static boolean falls(Rule of, Reading by) {
        if (!weak(of, by)) {
            return false;
        }
        BigInteger[][] left = value(by, of.left);
        BigInteger[][] right = value(by, of.right);
        if (by.ring == 0) {
            return left[0][by.size - 1].compareTo(right[0][by.size - 1]) > 0;
        }
        boolean falls = true;
        for (int x = 0; x < by.size; x++) {
            for (int y = 0; y < by.size; y++) {
                boolean bothNone = left[x][y] == null && right[x][y] == null;
                falls &= bothNone || compare(by, left[x][y], right[x][y]) > 0;
            }
        }
        return falls;
    }

    private static int answer(BigInteger number) {
        return number == null ? NONE : number.intValueExact();
    }

    public int value(int i, int s, int x, int y) {
        if (noRule(i) || !in(s, 0, 1) || !in(x, 0, now.size - 1) || !in(y, 0, now.size - 1)) {
            return BAD;
        }
        BigInteger[][] value = value(now, s == 0 ? rules.get(i).left : rules.get(i).right);
        return value == null ? OVER : answer(value[x][y]);
    }

    // What a stage would remove behind the ones given; null where it can't be laid.
    private TreeSet<Integer> wouldRemove(Reading by, List<Stage> behind) {
        if (!sound(by)) {
            return null;
        }
        TreeSet<Integer> gone = new TreeSet<>();
        for (Stage stage : behind) {
            gone.addAll(stage.removed);
        }
        TreeSet<Integer> falling = new TreeSet<>();
        for (int i = 0; i < rules.size(); i++) {
            if (!gone.contains(i)) {
                if (!weak(rules.get(i), by)) {
                    return null;
                }
                if (falls(rules.get(i), by)) {
                    falling.add(i);
                }
            }
        }
        return falling.isEmpty() ? null : falling;
    }

    private static int bits(TreeSet<Integer> numbers) {
        int bits = 0;
        for (int number : numbers) {
            bits += 1 << number;
        }
        return bits;
    }

    public int stage() {
        TreeSet<Integer> falling = wouldRemove(now, laid);
        if (falling == null) {
            return NOT;
        }
        laid.add(new Stage(now.copied(), falling));
        return bits(falling);
    }

    public int back() {
        if (laid.isEmpty()) {
            return NOT;
        }
        laid.remove(laid.size() - 1);
        return laid.size();
    }

    public int stages(int k, int what) {
        if (noStage(k) || !in(what, 0, 3)) {
            return BAD;
        }
        Stage of = laid.get(k);
        TreeSet<Integer> first = wouldRemove(of.by, List.of());
        int[] told = {bits(of.removed), of.by.ring, of.by.size, first == null ? NONE : bits(first)};
        return told[what];
    }

    public int kept(int k, int sign, int x, int y) {
        boolean bad = noStage(k) || entry(sign, x, y) == BAD;
        return bad ? BAD : laid.get(k).by.entries[sign][x][y];
    }

    // Lays all stages anew, the two in the other order.
    public int swap(int k) {
        if (noStage(k) || noStage(k + 1)) {
            return BAD;
        }
        List<Stage> wanted = new ArrayList<>(laid);
        wanted.set(k, laid.get(k + 1));
        wanted.set(k + 1, laid.get(k));
        List<Stage> anew = new ArrayList<>();
        for (Stage stage : wanted) {
            TreeSet<Integer> falling = wouldRemove(stage.by, anew);
            if (falling == null) {
                return NOT;
            }
            anew.add(new Stage(stage.by, falling));
        }
        laid = anew;
        return bits(laid.get(k).removed);
    }

    public int ends() {
        return count(3) == 0 ? 1 : 0;
    }

    private Reading readingOfTry(long number, int b) {
        Reading made = now.copied();
        long rest = number;
        int each = now.size * now.size;
        for (int place = m * each - 1; place >= 0; place--) {
            int digit = (int) (rest % (b + 1));
            rest /= b + 1;
            int within = place % each;
            made.entries[place / each][within / now.size][within % now.size] = now.ring == 0 ? digit : digit - 1;
        }
        return made;
    }

    private int refusedTries(int b) {
        if (!in(b, 1, 9)) {
            return BAD;
        }
        BigInteger tries = BigInteger.valueOf(b + 1).pow(m * now.size * now.size);
        return tries.compareTo(BigInteger.valueOf(8192)) > 0 ? NOT : 0;
    }

    public int search(int b) {
        if (refusedTries(b) != 0) {
            return refusedTries(b);
        }
        long tries = BigInteger.valueOf(b + 1).pow(m * now.size * now.size).longValueExact();
        for (int number = 0; number < tries; number++) {
            Reading tried = readingOfTry(number, b);
            if (wouldRemove(tried, laid) != null) {
                now = tried;
                return number;
            }
        }
        return NONE;
    }

    public int auto(int b) {
        if (refusedTries(b) != 0) {
            return refusedTries(b);
        }
        int done = 0;
        while (search(b) != NONE) {
            stage();
            done++;
        }
        return done;
    }

    public int word() {
        if (wordFault() != NONE) {
            return -1000 - wordFault();
        }
        word = text;
        text = "";
        steps = 0;
        for (Rule rule : rules) {
            rule.uses = 0;
        }
        return word.length();
    }

    public int step() {
        for (int i = 0; i < rules.size(); i++) {
            Rule rule = rules.get(i);
            if (word.contains(rule.left)) {
                String then = word.replaceFirst(rule.left, rule.right);
                if (then.length() > 24) {
                    return FULL;
                }
                word = then;
                rule.uses++;
                steps++;
                return i;
            }
        }
        return NOT;
    }

    public int run(int n) {
        if (!in(n, 0, 40)) {
            return BAD;
        }
        int done = 0;
        while (done < n && step() >= 0) {
            done++;
        }
        return done;
    }

    public int letter(int k) {
        return in(k, -1, 23) ? howManyOrOne(word, k) : BAD;
    }

    public int measure(int k) {
        if (k != NONE && noStage(k)) {
            return BAD;
        }
        Reading by = k == NONE ? now : laid.get(k).by;
        BigInteger[][] value = value(by, word);
        return value == null ? OVER : answer(value[0][by.ring == 0 ? by.size - 1 : 0]);
    }

    private int form(int s) {
        return sheets[s] instanceof byte[] ? 0 : sheets[s] instanceof short[] ? 1 : 2;
    }

    private int items(int s) {
        return java.lang.reflect.Array.getLength(sheets[s]);
    }

    private int item(int s, int i) {
        return java.lang.reflect.Array.getInt(sheets[s], i);
    }

    private void put(int s, int i, int v) {
        if (sheets[s] instanceof byte[] bytes) {
            bytes[i] = (byte) v;
        } else if (sheets[s] instanceof short[] shorts) {
            shorts[i] = (short) v;
        } else {
            ((int[]) sheets[s])[i] = v;
        }
    }

    public int sheet(int s, int form, int n) {
        if (!in(s, 0, 3) || !in(form, 0, 2) || n > 60) {
            return BAD;
        }
        if (n < 0) {
            return found(5);
        }
        sheets[s] = form == 0 ? new byte[n] : form == 1 ? new short[n] : new int[n];
        return n;
    }

    public int lose(int s) {
        if (!in(s, 0, 3)) {
            return BAD;
        }
        if (sheets[s] == null) {
            return found(1);
        }
        int had = items(s);
        sheets[s] = null;
        return had;
    }

    private int findingAt(int s, int form, int i) {
        return sheets[s] == null ? 1 : form(s) != form ? 3 : !in(i, 0, items(s) - 1) ? 2 : 0;
    }

    public int lay(int s, int form, int i, int v) {
        if (!in(s, 0, 3) || !in(form, 0, 2)) {
            return BAD;
        }
        if (findingAt(s, form, i) != 0) {
            return found(findingAt(s, form, i));
        }
        put(s, i, v);
        return 1;
    }

    public int get(int s, int form, int i) {
        if (!in(s, 0, 3) || !in(form, 0, 2)) {
            return Integer.MIN_VALUE;
        }
        if (findingAt(s, form, i) != 0) {
            found(findingAt(s, form, i));
            return Integer.MIN_VALUE;
        }
        return item(s, i);
    }

    public int copy(int s, int i, int t, int j, int n) {
        if (!in(s, 0, 3) || !in(t, 0, 3)) {
            return BAD;
        }
        if (sheets[s] == null || sheets[t] == null) {
            return found(1);
        }
        if (form(s) != form(t)) {
            return found(4);
        }
        if (i < 0 || j < 0 || n < 0 || (long) i + n > items(s) || (long) j + n > items(t)) {
            return found(2);
        }
        List<Integer> asTheyWere = new ArrayList<>();
        for (int k = 0; k < n; k++) {
            asTheyWere.add(item(s, i + k));
        }
        for (int k = 0; k < n; k++) {
            put(t, j + k, asTheyWere.get(k));
        }
        return 1;
    }

    public int write(int s) {
        if (!in(s, 0, 3)) {
            return BAD;
        }
        if (sheets[s] == null) {
            return found(1);
        }
        int k = 0;
        for (; k < items(s) && k < word.length(); k++) {
            put(s, k, word.charAt(k) - 'a');
        }
        return k;
    }

    public int count(int what) {
        int strict = 0;
        int weak = 0;
        for (int i = 0; i < rules.size(); i++) {
            strict += rules.get(i).strict && removedBy(i) == NONE ? 1 : 0;
            weak += weak(rules.get(i), now) ? 1 : 0;
        }
        int[] told = {rules.size(), rules.size() - removed().size(), laid.size(), strict, word.length(), steps,
            text.length(), weak, finding};
        return in(what, 0, 8) ? told[what] : BAD;
    }

    public long digest() {
        List<Integer> all = new ArrayList<>();
        for (int what = 0; what < 8; what++) {
            all.add(count(what));
        }
        all.addAll(List.of(fault(0), fault(1), sound(), ends()));
        for (int i = 0; i < rules.size(); i++) {
            for (int what = 0; what < 6; what++) {
                all.add(info(i, what));
            }
            all.addAll(List.of(side(i, 0, NONE), side(i, 0, 0), side(i, 1, NONE), value(i, 0, 0, 0)));
        }
        for (int sign = 0; sign < m; sign++) {
            all.addAll(List.of(entry(sign, 0, 0), entry(sign, 0, 1), entry(sign, 1, 0), entry(sign, 1, 1)));
        }
        for (int k = 0; k < laid.size(); k++) {
            all.addAll(List.of(stages(k, 0), stages(k, 1), stages(k, 2), stages(k, 3), measure(k), kept(k, 0, 0, 0)));
        }
        all.add(measure(NONE));
        for (int k = -1; k < 24; k++) {
            all.add(letter(k));
        }
        BigInteger h = BigInteger.valueOf(17);
        for (int each : all) {
            h = h.multiply(BigInteger.valueOf(31)).add(BigInteger.valueOf(each));
        }
        return h.longValue();
    }
}
