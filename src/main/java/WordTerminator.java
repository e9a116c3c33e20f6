import java.util.Arrays;

// Shows that rewriting of words comes to an end, by reading signs as matrices and taking
// away, stage by stage, the rules whose left is worth more than their right.
// All rows are made in the constructor and used again: calls make no objects.
public final class WordTerminator {
    public static final int NONE = -1, BAD = -2, NOT = -3, FULL = -4, OVER = -5;

    private static final int MOST_SIGNS = 4;
    private static final int MOST_RULES = 8;
    private static final int MOST_SIDE = 6;
    private static final int MOST_TEXT = 20;
    private static final int MOST_WORD = 24;
    private static final int MOST_STEPS = 40;
    private static final int MOST_ENTRY = 999;
    private static final int MOST_BASE = 9;
    private static final int MOST_TRIES = 8192;

    private static final int GREATEST = 2147483647;
    private static final int LEAST = -2147483648;

    private static final int NATURAL = 0;
    private static final int TROPIC = 1;
    private static final int ARCTIC = 2;

    private static final int WIDTH = 3;
    private static final int CELLS = 9;

    private static final int NOT_WEAK = 0;
    private static final int WEAK = 1;
    private static final int FALLS = 2;

    private static final int SHEETS = 4;
    private static final int MOST_ITEMS = 60;
    private static final int LOST = -1;
    private static final int BYTES = 0;
    private static final int SHORTS = 1;
    private static final int INTS = 2;

    private static final int FINDING_NULL = 1;
    private static final int FINDING_INDEX = 2;
    private static final int FINDING_CAST = 3;
    private static final int FINDING_STORE = 4;
    private static final int FINDING_SIZE = 5;

    private final Text text = new Text();
    private final Row word = new Row(MOST_WORD);
    private final Rule[] rules = new Rule[MOST_RULES];
    private final Stage[] laid = new Stage[MOST_RULES];
    private final Sheet[] sheets = new Sheet[SHEETS];
    private final Reading now = new Reading();
    private final Reading trial = new Reading();
    private final Value leftValue = new Value();
    private final Value rightValue = new Value();
    private int signCount = 3;
    private int ruleCount = 0;
    private int stageCount = 0;
    private int stepCount = 0;
    private int latestFinding = 0;

    public WordTerminator() {
        for (int i = 0; i < MOST_RULES; i++) {
            rules[i] = new Rule();
            // Each stage takes away a rule, so there are never more stages than rules.
            laid[i] = new Stage();
        }
        for (int s = 0; s < SHEETS; s++) {
            sheets[s] = new Sheet();
        }
    }

    // ---- rules

    public int signs(int n) {
        if (n < 1 || n > MOST_SIGNS) {
            return BAD;
        }
        if (ruleCount > 0 || word.length > 0) {
            return NOT;
        }
        int before = signCount;
        signCount = n;
        return before;
    }

    public int type(int b) {
        if (b < 0 || b > 255) {
            return BAD;
        }
        if (text.length >= MOST_TEXT) {
            return FULL;
        }
        text.append(b);
        return text.length;
    }

    public int wipe() {
        int before = text.length;
        text.length = 0;
        return before;
    }

    public int fault(int what) {
        switch (what) {
            case 0:
                return text.faultAsRule(signCount);
            case 1:
                return text.faultAsWord(signCount);
            default:
                return BAD;
        }
    }

    public int rule() {
        if (stageCount > 0) {
            return NOT;
        }
        if (ruleCount >= MOST_RULES) {
            return FULL;
        }
        int place = text.faultAsRule(signCount);
        if (place != NONE) {
            return faultAnswer(place);
        }
        rules[ruleCount].tell(text);
        text.length = 0;
        ruleCount++;
        return ruleCount - 1;
    }

    public int drop(int i) {
        if (!isRule(i)) {
            return BAD;
        }
        if (stageCount > 0) {
            return NOT;
        }
        Rule dropped = rules[i];
        for (int j = i; j < ruleCount - 1; j++) {
            rules[j] = rules[j + 1];
        }
        // The dropped one is kept behind the others, so that a later rule can use its rows.
        rules[ruleCount - 1] = dropped;
        ruleCount--;
        return ruleCount;
    }

    public int side(int i, int s, int k) {
        if (!isRule(i) || !isSide(s) || k < NONE || k >= MOST_SIDE) {
            return BAD;
        }
        return rules[i].half(s).lengthOrSign(k);
    }

    public int info(int i, int what) {
        if (!isRule(i)) {
            return BAD;
        }
        switch (what) {
            case 0:
                return bit(rules[i].strict);
            case 1:
                return removedBy(i);
            case 2:
                return rules[i].uses;
            case 3:
                return bit(judge(rules[i], now) != NOT_WEAK);
            case 4:
                return bit(judge(rules[i], now) == FALLS);
            case 5:
                return word.placesOf(rules[i].left);
            default:
                return BAD;
        }
    }

    // ---- how words are read

    public int ring(int v) {
        if (v < NATURAL || v > ARCTIC) {
            return BAD;
        }
        int before = now.ring;
        now.ring = v;
        return before;
    }

    public int size(int n) {
        if (n < 1 || n > WIDTH) {
            return BAD;
        }
        int before = now.size;
        now.size = n;
        return before;
    }

    public int enter(int sign, int x, int y, int v) {
        if (!isPlace(sign, x, y) || !isEntry(v)) {
            return BAD;
        }
        int before = now.entryAt(sign, x, y);
        now.tell(sign, x, y, v);
        return before;
    }

    public int entry(int sign, int x, int y) {
        if (!isPlace(sign, x, y)) {
            return BAD;
        }
        return now.entryAt(sign, x, y);
    }

    public int read(int sign, int s) {
        if (!isSign(sign) || !isSheet(s)) {
            return BAD;
        }
        Sheet from = sheets[s];
        if (from.form == LOST) {
            return found(FINDING_NULL);
        }
        int told = 0;
        for (int x = 0; x < now.size; x++) {
            for (int y = 0; y < now.size; y++) {
                if (told >= from.length || !isEntry(from.items[told])) {
                    return told;
                }
                now.tell(sign, x, y, from.items[told]);
                told++;
            }
        }
        return told;
    }

    public int sound() {
        return bit(now.isSound(signCount));
    }

    public int value(int i, int s, int x, int y) {
        if (!isRule(i) || !isSide(s) || !now.counts(x) || !now.counts(y)) {
            return BAD;
        }
        leftValue.reckon(rules[i].half(s), now);
        return leftValue.over ? OVER : leftValue.cellAt(x, y);
    }

    // ---- stages

    public int stage() {
        int bits = fallingBits(now, standingBits());
        if (bits == 0) {
            return NOT;
        }
        layStage(bits);
        return bits;
    }

    public int back() {
        if (stageCount == 0) {
            return NOT;
        }
        stageCount--;
        return stageCount;
    }

    public int stages(int k, int what) {
        if (!isStage(k)) {
            return BAD;
        }
        switch (what) {
            case 0:
                return laid[k].removed;
            case 1:
                return laid[k].reading.ring;
            case 2:
                return laid[k].reading.size;
            case 3:
                int bits = fallingBits(laid[k].reading, allBits());
                return bits == 0 ? NONE : bits;
            default:
                return BAD;
        }
    }

    public int kept(int k, int sign, int x, int y) {
        if (!isStage(k) || !isPlace(sign, x, y)) {
            return BAD;
        }
        return laid[k].reading.entryAt(sign, x, y);
    }

    public int swap(int k) {
        if (k < 0 || k >= stageCount - 1) {
            return BAD;
        }
        Stage lower = laid[k];
        Stage upper = laid[k + 1];
        int standing = allBits() & ~removedBefore(k);
        int first = fallingBits(upper.reading, standing);
        if (first == 0) {
            return NOT;
        }
        int second = fallingBits(lower.reading, standing & ~first);
        if (second == 0) {
            return NOT;
        }
        // Both orders take away the same rules in all, so the stages above stay as they are.
        upper.removed = first;
        lower.removed = second;
        laid[k] = upper;
        laid[k + 1] = lower;
        return first;
    }

    public int ends() {
        return bit(strictStanding() == 0);
    }

    public int search(int b) {
        if (b < 1 || b > MOST_BASE) {
            return BAD;
        }
        int tries = triesWith(b);
        if (tries > MOST_TRIES) {
            return NOT;
        }
        return tellLeastTry(b, tries);
    }

    public int auto(int b) {
        if (b < 1 || b > MOST_BASE) {
            return BAD;
        }
        int tries = triesWith(b);
        if (tries > MOST_TRIES) {
            return NOT;
        }
        for (int done = 0; done < MOST_RULES; done++) {
            if (tellLeastTry(b, tries) == NONE) {
                return done;
            }
            layStage(fallingBits(now, standingBits()));
        }
        return MOST_RULES;
    }

    // ---- words

    public int word() {
        int place = text.faultAsWord(signCount);
        if (place != NONE) {
            return faultAnswer(place);
        }
        word.length = 0;
        text.pour(0, text.length, word);
        text.length = 0;
        stepCount = 0;
        for (int i = 0; i < ruleCount; i++) {
            rules[i].uses = 0;
        }
        return word.length;
    }

    public int step() {
        for (int i = 0; i < ruleCount; i++) {
            int place = word.firstPlaceOf(rules[i].left);
            if (place != NONE) {
                return stepBy(i, place);
            }
        }
        return NOT;
    }

    public int run(int n) {
        if (n < 0 || n > MOST_STEPS) {
            return BAD;
        }
        for (int done = 0; done < n; done++) {
            if (step() < 0) {
                return done;
            }
        }
        return n;
    }

    public int letter(int k) {
        if (k < NONE || k >= MOST_WORD) {
            return BAD;
        }
        return word.lengthOrSign(k);
    }

    public int measure(int k) {
        if (k != NONE && !isStage(k)) {
            return BAD;
        }
        Reading by = k == NONE ? now : laid[k].reading;
        leftValue.reckon(word, by);
        if (leftValue.over) {
            return OVER;
        }
        return leftValue.cellAt(0, by.ring == NATURAL ? by.size - 1 : 0);
    }

    // ---- sheets

    public int sheet(int s, int form, int n) {
        if (!isSheet(s) || !isForm(form) || n > MOST_ITEMS) {
            return BAD;
        }
        if (n < 0) {
            return found(FINDING_SIZE);
        }
        sheets[s].renew(form, n);
        return n;
    }

    public int lose(int s) {
        if (!isSheet(s)) {
            return BAD;
        }
        if (sheets[s].form == LOST) {
            return found(FINDING_NULL);
        }
        sheets[s].form = LOST;
        return sheets[s].length;
    }

    public int lay(int s, int form, int i, int v) {
        if (!isSheet(s) || !isForm(form)) {
            return BAD;
        }
        int finding = sheets[s].findingAt(form, i);
        if (finding != 0) {
            return found(finding);
        }
        sheets[s].put(i, v);
        return 1;
    }

    public int get(int s, int form, int i) {
        if (!isSheet(s) || !isForm(form)) {
            return LEAST;
        }
        int finding = sheets[s].findingAt(form, i);
        if (finding != 0) {
            // An item of ints may be any int, so none is left to tell the FINDING by.
            latestFinding = finding;
            return LEAST;
        }
        return sheets[s].items[i];
    }

    public int copy(int s, int i, int t, int j, int n) {
        if (!isSheet(s) || !isSheet(t)) {
            return BAD;
        }
        Sheet from = sheets[s];
        Sheet to = sheets[t];
        if (from.form == LOST || to.form == LOST) {
            return found(FINDING_NULL);
        }
        if (from.form != to.form) {
            return found(FINDING_STORE);
        }
        if (!from.hasItems(i, n) || !to.hasItems(j, n)) {
            return found(FINDING_INDEX);
        }
        System.arraycopy(from.items, i, to.items, j, n);
        return 1;
    }

    public int write(int s) {
        if (!isSheet(s)) {
            return BAD;
        }
        if (sheets[s].form == LOST) {
            return found(FINDING_NULL);
        }
        int most = Math.min(sheets[s].length, word.length);
        for (int k = 0; k < most; k++) {
            sheets[s].put(k, word.signs[k]);
        }
        return most;
    }

    public int count(int what) {
        switch (what) {
            case 0:
                return ruleCount;
            case 1:
                return Integer.bitCount(standingBits());
            case 2:
                return stageCount;
            case 3:
                return strictStanding();
            case 4:
                return word.length;
            case 5:
                return stepCount;
            case 6:
                return text.length;
            case 7:
                return weakCount();
            case 8:
                return latestFinding;
            default:
                return BAD;
        }
    }

    public long digest() {
        long h = 17L;
        for (int what = 0; what <= 7; what++) {
            h = mix(h, count(what));
        }
        h = mix(h, fault(0));
        h = mix(h, fault(1));
        h = mix(h, sound());
        h = mix(h, ends());
        h = mixRules(h);
        h = mixSigns(h);
        for (int k = 0; k < stageCount; k++) {
            for (int what = 0; what <= 3; what++) {
                h = mix(h, stages(k, what));
            }
            h = mix(h, measure(k));
            h = mix(h, kept(k, 0, 0, 0));
        }
        h = mix(h, measure(NONE));
        for (int k = NONE; k < MOST_WORD; k++) {
            h = mix(h, letter(k));
        }
        return h;
    }

    private long mixRules(long start) {
        long h = start;
        for (int i = 0; i < ruleCount; i++) {
            for (int what = 0; what <= 5; what++) {
                h = mix(h, info(i, what));
            }
            h = mix(h, side(i, 0, NONE));
            h = mix(h, side(i, 0, 0));
            h = mix(h, side(i, 1, NONE));
            h = mix(h, value(i, 0, 0, 0));
        }
        return h;
    }

    private long mixSigns(long start) {
        long h = start;
        for (int sign = 0; sign < signCount; sign++) {
            for (int x = 0; x <= 1; x++) {
                for (int y = 0; y <= 1; y++) {
                    h = mix(h, entry(sign, x, y));
                }
            }
        }
        return h;
    }

    private static long mix(long h, int next) {
        return 31L * h + next;
    }

    private static int bit(boolean yes) {
        return yes ? 1 : 0;
    }

    private static int faultAnswer(int place) {
        return -1000 - place;
    }

    private int found(int finding) {
        latestFinding = finding;
        return -10 - finding;
    }

    private boolean isRule(int i) {
        return i >= 0 && i < ruleCount;
    }

    private static boolean isSide(int s) {
        return s == 0 || s == 1;
    }

    private boolean isSign(int sign) {
        return sign >= 0 && sign < signCount;
    }

    private boolean isPlace(int sign, int x, int y) {
        return isSign(sign) && x >= 0 && x < WIDTH && y >= 0 && y < WIDTH;
    }

    private static boolean isEntry(int v) {
        return v >= NONE && v <= MOST_ENTRY;
    }

    private boolean isStage(int k) {
        return k >= 0 && k < stageCount;
    }

    private static boolean isSheet(int s) {
        return s >= 0 && s < SHEETS;
    }

    private static boolean isForm(int form) {
        return form >= BYTES && form <= INTS;
    }

    private int allBits() {
        return (1 << ruleCount) - 1;
    }

    private int removedBefore(int k) {
        int bits = 0;
        for (int j = 0; j < k; j++) {
            bits |= laid[j].removed;
        }
        return bits;
    }

    private int standingBits() {
        return allBits() & ~removedBefore(stageCount);
    }

    private int removedBy(int i) {
        for (int k = 0; k < stageCount; k++) {
            if ((laid[k].removed >> i & 1) != 0) {
                return k;
            }
        }
        return NONE;
    }

    private int strictStanding() {
        int standing = standingBits();
        int strict = 0;
        for (int i = 0; i < ruleCount; i++) {
            if ((standing >> i & 1) != 0 && rules[i].strict) {
                strict++;
            }
        }
        return strict;
    }

    private int weakCount() {
        int weak = 0;
        for (int i = 0; i < ruleCount; i++) {
            if (judge(rules[i], now) != NOT_WEAK) {
                weak++;
            }
        }
        return weak;
    }

    private int judge(Rule judged, Reading by) {
        leftValue.reckon(judged.left, by);
        if (leftValue.over) {
            return NOT_WEAK;
        }
        rightValue.reckon(judged.right, by);
        if (rightValue.over) {
            return NOT_WEAK;
        }
        return leftValue.against(rightValue, by);
    }

    // Which of the standing rules a stage would remove; 0 where it can't be laid.
    private int fallingBits(Reading by, int standing) {
        if (!by.isSound(signCount)) {
            return 0;
        }
        int bits = 0;
        for (int i = 0; i < ruleCount; i++) {
            if ((standing >> i & 1) != 0) {
                int verdict = judge(rules[i], by);
                if (verdict == NOT_WEAK) {
                    return 0;
                }
                if (verdict == FALLS) {
                    bits |= 1 << i;
                }
            }
        }
        return bits;
    }

    private void layStage(int bits) {
        if (stageCount < MOST_RULES) {
            laid[stageCount].removed = bits;
            laid[stageCount].reading.takeFrom(now);
            stageCount++;
        }
    }

    // Stops multiplying above the limit: all tries with four signs of size 3 would not fit an int.
    private int triesWith(int b) {
        int places = signCount * now.size * now.size;
        int tries = 1;
        for (int p = 0; p < places && tries <= MOST_TRIES; p++) {
            tries *= b + 1;
        }
        return tries;
    }

    private int tellLeastTry(int b, int tries) {
        int standing = standingBits();
        if (standing == 0) {
            return NONE;
        }
        trial.takeFrom(now);
        trial.startTries(signCount);
        for (int number = 0; number < tries; number++) {
            if (fallingBits(trial, standing) != 0) {
                now.takeFrom(trial);
                return number;
            }
            trial.nextTry(signCount, b);
        }
        return NONE;
    }

    private int stepBy(int i, int place) {
        Rule used = rules[i];
        if (word.length - used.left.length + used.right.length > MOST_WORD) {
            return FULL;
        }
        word.replace(place, used.left.length, used.right);
        used.uses++;
        stepCount++;
        return i;
    }

    // A row of signs: THE WORD, or a side of a rule.
    private static final class Row {
        final int[] signs;
        int length = 0;

        Row(int room) {
            signs = new int[Math.max(0, room)];
        }

        void append(int sign) {
            if (length < signs.length) {
                signs[length] = sign;
                length++;
            }
        }

        int lengthOrSign(int k) {
            if (k < 0) {
                return length;
            }
            return k < length ? signs[k] : NONE;
        }

        boolean hasAt(int place, Row part) {
            if (place < 0 || part.length > length - place) {
                return false;
            }
            for (int k = 0; k < part.length; k++) {
                if (signs[place + k] != part.signs[k]) {
                    return false;
                }
            }
            return true;
        }

        int firstPlaceOf(Row part) {
            for (int place = 0; place < length; place++) {
                if (hasAt(place, part)) {
                    return place;
                }
            }
            return NONE;
        }

        int placesOf(Row part) {
            int places = 0;
            for (int place = 0; place < length; place++) {
                if (hasAt(place, part)) {
                    places++;
                }
            }
            return places;
        }

        // Callers have seen that so many signs are there and that the new row has room.
        void replace(int place, int gone, Row put) {
            int behind = place + gone;
            System.arraycopy(signs, behind, signs, place + put.length, length - behind);
            System.arraycopy(put.signs, 0, signs, place, put.length);
            length += put.length - gone;
        }
    }

    private static final class Text {
        final int[] bytes = new int[MOST_TEXT];
        int length = 0;

        void append(int b) {
            if (length < MOST_TEXT) {
                bytes[length] = b;
                length++;
            }
        }

        int faultAsWord(int signCount) {
            for (int p = 0; p < length; p++) {
                if (!isLetter(bytes[p], signCount)) {
                    return p;
                }
            }
            return NONE;
        }

        int faultAsRule(int signCount) {
            boolean leftDone = false;
            int inSide = 0;
            for (int p = 0; p < length; p++) {
                if (isLetter(bytes[p], signCount) && inSide < MOST_SIDE) {
                    inSide++;
                } else if (isArrow(bytes[p]) && !leftDone && inSide > 0) {
                    leftDone = true;
                    inSide = 0;
                } else {
                    return p;
                }
            }
            return leftDone ? NONE : length;
        }

        int arrowPlace() {
            for (int p = 0; p < length; p++) {
                if (isArrow(bytes[p])) {
                    return p;
                }
            }
            return length;
        }

        boolean hasAt(int place, char wanted) {
            return place >= 0 && place < length && bytes[place] == wanted;
        }

        // Places from..to less 1 must hold letters.
        void pour(int from, int to, Row into) {
            for (int p = from; p < to; p++) {
                into.append(bytes[p] - 'a');
            }
        }

        private static boolean isLetter(int b, int signCount) {
            return b >= 'a' && b < 'a' + signCount;
        }

        private static boolean isArrow(int b) {
            return b == '>' || b == '=';
        }
    }

    private static final class Rule {
        final Row left = new Row(MOST_SIDE);
        final Row right = new Row(MOST_SIDE);
        boolean strict = false;
        int uses = 0;

        Row half(int s) {
            return s == 0 ? left : right;
        }

        void tell(Text text) {
            int arrow = text.arrowPlace();
            left.length = 0;
            right.length = 0;
            text.pour(0, arrow, left);
            text.pour(arrow + 1, text.length, right);
            strict = text.hasAt(arrow, '>');
            uses = 0;
        }
    }

    private static final class Stage {
        final Reading reading = new Reading();
        int removed = 0;
    }

    // RING, SIZE and ENTRIES: how words are read.
    private static final class Reading {
        int ring = NATURAL;
        int size = 1;
        private final int[] entries = new int[MOST_SIGNS * CELLS];

        Reading() {
            for (int e = 0; e < entries.length; e++) {
                // In a matrix of three by three, places of like row and column are four apart.
                entries[e] = e % CELLS % (WIDTH + 1) == 0 ? 1 : NONE;
            }
        }

        void takeFrom(Reading other) {
            ring = other.ring;
            size = other.size;
            System.arraycopy(other.entries, 0, entries, 0, entries.length);
        }

        int entryAt(int sign, int x, int y) {
            return entries[sign * CELLS + x * WIDTH + y];
        }

        void tell(int sign, int x, int y, int v) {
            entries[sign * CELLS + x * WIDTH + y] = v;
        }

        boolean counts(int line) {
            return line >= 0 && line < size;
        }

        boolean isSound(int signCount) {
            int least = ring == NATURAL ? 1 : 0;
            for (int sign = 0; sign < signCount; sign++) {
                if (entryAt(sign, 0, 0) < least) {
                    return false;
                }
                if (ring == NATURAL && entryAt(sign, size - 1, size - 1) < least) {
                    return false;
                }
            }
            return true;
        }

        void startTries(int signCount) {
            for (int sign = 0; sign < signCount; sign++) {
                for (int x = 0; x < size; x++) {
                    for (int y = 0; y < size; y++) {
                        tell(sign, x, y, lowestDigit());
                    }
                }
            }
        }

        // Counts on from the last entry, which is the lowest digit, carrying to the ones ahead.
        void nextTry(int signCount, int b) {
            int highest = lowestDigit() + b;
            for (int sign = signCount - 1; sign >= 0; sign--) {
                for (int x = size - 1; x >= 0; x--) {
                    for (int y = size - 1; y >= 0; y--) {
                        int digit = entryAt(sign, x, y);
                        if (digit < highest) {
                            tell(sign, x, y, digit + 1);
                            return;
                        }
                        tell(sign, x, y, lowestDigit());
                    }
                }
            }
        }

        // NONE is one below 0, so that entries count on like digits by all rings.
        private int lowestDigit() {
            return ring == NATURAL ? 0 : NONE;
        }

        // By TROPIC NONE is above all numbers; by ARCTIC -1 is below them as it is.
        int rank(int number) {
            return ring == TROPIC && number == NONE ? GREATEST : number;
        }

        // Row x of a matrix times column y of a sign's. Never wraps: three products of 31 and 10 bits.
        long naturalProduct(int[] cells, int x, int sign, int y) {
            int column = sign * CELLS + y;
            long sum = 0L;
            for (int z = 0; z < size; z++) {
                int factor = entries[column + z * WIDTH];
                if (factor != NONE) {
                    sum += (long) cells[x * WIDTH + z] * factor;
                }
            }
            return sum;
        }

        // The same by TROPIC and ARCTIC.
        int bestSum(int[] cells, int x, int sign, int y) {
            int column = sign * CELLS + y;
            int best = NONE;
            for (int z = 0; z < size; z++) {
                int cell = cells[x * WIDTH + z];
                int factor = entries[column + z * WIDTH];
                if (cell != NONE && factor != NONE) {
                    int sum = cell + factor;
                    if (best == NONE || (ring == TROPIC ? sum < best : sum > best)) {
                        best = sum;
                    }
                }
            }
            return best;
        }
    }

    // The VALUE of a row of signs; its numbers mean nothing while it is OVER.
    private static final class Value {
        boolean over = false;
        private int[] cells = new int[CELLS];
        private int[] spare = new int[CELLS];

        int cellAt(int x, int y) {
            return cells[x * WIDTH + y];
        }

        void reckon(Row row, Reading by) {
            over = false;
            startWithNoSigns(by);
            for (int k = 0; k < row.length && !over; k++) {
                multiply(row.signs[k], by);
            }
        }

        private void startWithNoSigns(Reading by) {
            int alike = by.ring == NATURAL ? 1 : 0;
            int unlike = by.ring == NATURAL ? 0 : NONE;
            for (int x = 0; x < by.size; x++) {
                for (int y = 0; y < by.size; y++) {
                    cells[x * WIDTH + y] = x == y ? alike : unlike;
                }
            }
        }

        private void multiply(int sign, Reading by) {
            for (int x = 0; x < by.size; x++) {
                for (int y = 0; y < by.size; y++) {
                    long number = by.ring == NATURAL
                        ? by.naturalProduct(cells, x, sign, y) : by.bestSum(cells, x, sign, y);
                    if (number > GREATEST) {
                        over = true;
                        return;
                    }
                    spare[x * WIDTH + y] = (int) number;
                }
            }
            int[] made = spare;
            spare = cells;
            cells = made;
        }

        int against(Value right, Reading by) {
            boolean allGreater = true;
            for (int x = 0; x < by.size; x++) {
                for (int y = 0; y < by.size; y++) {
                    int mine = by.rank(cellAt(x, y));
                    int other = by.rank(right.cellAt(x, y));
                    if (mine < other) {
                        return NOT_WEAK;
                    }
                    if (mine == other && cellAt(x, y) != NONE) {
                        allGreater = false;
                    }
                }
            }
            return fallsBy(right, by, allGreater) ? FALLS : WEAK;
        }

        private boolean fallsBy(Value right, Reading by, boolean allGreater) {
            int last = by.size - 1;
            return by.ring == NATURAL ? cellAt(0, last) > right.cellAt(0, last) : allGreater;
        }
    }

    private static final class Sheet {
        int form = LOST;
        int length = 0;
        final int[] items = new int[MOST_ITEMS];

        void renew(int newForm, int n) {
            form = newForm;
            length = n;
            Arrays.fill(items, 0);
        }

        // The first finding, 0 for none, for item i treated as of a FORM.
        int findingAt(int treatedAs, int i) {
            if (form == LOST) {
                return FINDING_NULL;
            }
            if (form != treatedAs) {
                return FINDING_CAST;
            }
            return i < 0 || i >= length ? FINDING_INDEX : 0;
        }

        // By subtraction, as from + n could wrap.
        boolean hasItems(int from, int n) {
            return from >= 0 && n >= 0 && from <= length && n <= length - from;
        }

        void put(int i, int v) {
            items[i] = form == BYTES ? (byte) v : form == SHORTS ? (short) v : v;
        }
    }
}
