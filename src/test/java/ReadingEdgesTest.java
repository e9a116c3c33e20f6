// The bounds of promises 10 to 16 that are taken, and what lies on either side of them.
// Refusals stand in RefusedTest.
public final class ReadingEdgesTest {
    public static void main(String[] args) {
        everyRing();
        ringChangesNothingElse();
        everySize();
        leastAndGreatestEntry();
        everyEntryIsItsOwn();
        entriesBeyondSize();
        readAsManyAsCount();
        readStopsAtEachPlace();
        readNumbersAtTheBounds();
        readOfEachForm();
        readChangesNothingElse();
        soundOfEachSign();
        soundOfEachSize();
        soundByOtherRings();
        valueOfNoSigns();
        valueOfOneSign();
        valueAtTheLimit();
        valueThatWouldWrap();
        valueOverAtAnyPlace();
        valueOverAtAnyBeginning();
        greatestTropicAndArctic();
        noneAgainstNumbers();
        Check.end();
    }

    // Promise 10.
    private static void everyRing() {
        WordTerminator x = new WordTerminator();
        int before = 0;
        for (int v : new int[] {0, 2, 2, 0, 1, 1, 2, 1, 0}) {
            Check.due("ring(" + v + ")", x.ring(v), before);
            Check.due("no signs by ring " + v, x.measure(-1), v == 0 ? 1 : 0);
            before = v;
        }
        Check.due("ring(-1)", x.ring(-1), -2);
        Check.due("ring(3)", x.ring(3), -2);
        Check.due("ring is as it was", x.ring(0), 0);
    }

    private static void ringChangesNothingElse() {
        Probe.alike("ring there and back", States::full, x -> {
            States.full(x);
            x.ring(0);
            x.ring(1);
            x.ring(2);
        });
        Probe.alike("size there and back", States::full, x -> {
            States.full(x);
            x.size(1);
            x.size(2);
            x.size(3);
        });
    }

    // Promise 11.
    private static void everySize() {
        WordTerminator x = Check.withRules("a>");
        int before = 1;
        for (int n : new int[] {1, 3, 3, 1, 2, 2, 3, 2, 1}) {
            Check.due("size(" + n + ")", x.size(n), before);
            Check.due("the last place of " + n, x.value(0, 0, n - 1, n - 1), 1);
            Check.due("one row more than " + n, x.value(0, 0, n, n - 1), -2);
            Check.due("one column more than " + n, x.value(0, 0, n - 1, n), -2);
            before = n;
        }
        Check.due("size(0)", x.size(0), -2);
        Check.due("size(4)", x.size(4), -2);
        Check.due("size is as it was", x.size(1), 1);
    }

    // Promises 12 and 13.
    private static void leastAndGreatestEntry() {
        WordTerminator x = new WordTerminator();
        x.signs(4);
        for (int sign : new int[] {0, 3}) {
            for (int corner : new int[] {0, 2}) {
                int before = 1;
                for (int v : new int[] {-1, 0, 999, 999, -1, 1}) {
                    Check.due("enter " + v, x.enter(sign, corner, corner, v), before);
                    Check.due("entry " + v, x.entry(sign, corner, corner), v);
                    before = v;
                }
                Check.due("enter -2", x.enter(sign, corner, corner, -2), -2);
                Check.due("enter 1000", x.enter(sign, corner, corner, 1000), -2);
                Check.due("entry is as it was", x.entry(sign, corner, corner), 1);
            }
        }
    }

    private static void everyEntryIsItsOwn() {
        WordTerminator x = new WordTerminator();
        x.signs(4);
        for (int e = 0; e < 36; e++) {
            Check.due("enter", x.enter(e / 9, e / 3 % 3, e % 3, 100 + e), e % 9 % 4 == 0 ? 1 : -1);
        }
        for (int e = 0; e < 36; e++) {
            Check.due("entry", x.entry(e / 9, e / 3 % 3, e % 3), 100 + e);
        }
    }

    private static void entriesBeyondSize() {
        WordTerminator x = Check.withRules("a>");
        x.enter(0, 1, 1, 7);
        Check.due("SIZE 1 does not see it", x.value(0, 0, 0, 0), 1);
        x.size(2);
        Check.due("SIZE 2 does", x.value(0, 0, 1, 1), 7);
        x.enter(0, 2, 0, 8);
        x.size(3);
        Check.due("told ahead of SIZE 3", x.value(0, 0, 2, 0), 8);
    }

    // Promise 14.
    private static void readAsManyAsCount() {
        for (int size = 1; size <= 3; size++) {
            for (int items = 0; items <= 11; items++) {
                WordTerminator x = new WordTerminator();
                x.size(size);
                x.sheet(2, 1, items);
                for (int i = 0; i < items; i++) {
                    x.lay(2, 1, i, 500 + i);
                }
                int told = Math.min(items, size * size);
                Check.due("read of " + items + " by SIZE " + size, x.read(2, 2), told);
                for (int e = 0; e < 9; e++) {
                    int place = e / 3 * size + e % 3;
                    boolean counts = e / 3 < size && e % 3 < size && place < told;
                    Check.due("entry " + e, x.entry(2, e / 3, e % 3), counts ? 500 + place : e % 4 == 0 ? 1 : -1);
                }
            }
        }
        WordTerminator full = new WordTerminator();
        full.signs(4);
        full.size(3);
        full.sheet(3, 2, 60);
        Check.due("read of 60 items, the last sign and sheet", full.read(3, 3), 9);
        Check.due("0 is a number", full.entry(3, 2, 1), 0);
    }

    private static void readStopsAtEachPlace() {
        for (int stop = 0; stop <= 9; stop++) {
            for (int wrong : new int[] {-2, 1000}) {
                WordTerminator x = new WordTerminator();
                x.size(3);
                x.sheet(0, 2, 10);
                x.lay(0, 2, stop, wrong);
                Check.due("read up to place " + stop, x.read(0, 0), stop);
                for (int e = 0; e < 9; e++) {
                    Check.due("entry " + e, x.entry(0, e / 3, e % 3), e < stop ? 0 : e % 4 == 0 ? 1 : -1);
                }
                Check.due("it is no finding", x.count(8), 0);
            }
        }
    }

    private static void readNumbersAtTheBounds() {
        int[] numbers = {-2, -1, 0, 999, 1000, Integer.MIN_VALUE, Integer.MAX_VALUE, 65536};
        int[] taken = {0, 1, 1, 1, 0, 0, 0, 0};
        for (int k = 0; k < numbers.length; k++) {
            WordTerminator x = new WordTerminator();
            x.enter(1, 0, 0, 55);
            x.sheet(0, 2, 1);
            x.lay(0, 2, 0, numbers[k]);
            Check.due("read of " + numbers[k], x.read(1, 0), taken[k]);
            Check.due("entry", x.entry(1, 0, 0), taken[k] == 1 ? numbers[k] : 55);
        }
    }

    private static void readOfEachForm() {
        WordTerminator x = new WordTerminator();
        x.sheet(0, 0, 1);
        x.lay(0, 0, 0, 127);
        Check.due("the greatest byte", x.read(0, 0), 1);
        Check.due("entry", x.entry(0, 0, 0), 127);
        x.lay(0, 0, 0, 128);
        Check.due("128 is -128 as a byte", x.read(0, 0), 0);
        x.lay(0, 0, 0, 255);
        Check.due("255 is NONE as a byte", x.read(0, 0), 1);
        Check.due("entry", x.entry(0, 0, 0), -1);
        x.sheet(1, 1, 1);
        x.lay(1, 1, 0, 65535);
        Check.due("65535 is NONE as a short", x.read(1, 1), 1);
        Check.due("entry", x.entry(1, 0, 0), -1);
        x.lay(1, 1, 0, 65536 + 999);
        Check.due("999 as a short", x.read(1, 1), 1);
        Check.due("entry", x.entry(1, 0, 0), 999);
    }

    private static void readChangesNothingElse() {
        States.State ready = x -> {
            States.busy(x);
            x.lay(0, 0, 1, 3);
            x.lay(0, 0, 2, 4);
        };
        Probe.alike("read is as four entries", x -> {
            ready.tell(x);
            x.read(2, 0);
        }, x -> {
            ready.tell(x);
            Check.matrix(x, 2, 2, 40, 3, 4, 0);
        });
    }

    // Promise 15.
    private static void soundOfEachSign() {
        for (int m = 1; m <= 4; m++) {
            for (int sign = 0; sign < 4; sign++) {
                for (int v = -1; v <= 1; v++) {
                    WordTerminator x = new WordTerminator();
                    x.signs(4);
                    x.enter(sign, 0, 0, v);
                    x.signs(m);
                    boolean sound = sign >= m || v >= 1;
                    Check.due("sound, " + v + " of sign " + sign + " of " + m, x.sound(), sound ? 1 : 0);
                    x.ring(2);
                    Check.due("by ARCTIC", x.sound(), sign >= m || v >= 0 ? 1 : 0);
                    x.ring(1);
                    Check.due("by TROPIC", x.sound(), sign >= m || v >= 0 ? 1 : 0);
                }
            }
        }
    }

    private static void soundOfEachSize() {
        for (int size = 1; size <= 3; size++) {
            for (int e = 0; e < 9; e++) {
                for (int v = -1; v <= 1; v++) {
                    WordTerminator x = new WordTerminator();
                    x.size(size);
                    x.enter(2, e / 3, e % 3, v);
                    boolean looked = e == 0 || e == (size - 1) * 4;
                    Check.due("SIZE " + size + ", place " + e + " is " + v, x.sound(), looked && v < 1 ? 0 : 1);
                }
            }
        }
    }

    private static void soundByOtherRings() {
        for (int ring = 1; ring <= 2; ring++) {
            for (int e = 0; e < 9; e++) {
                for (int v = -1; v <= 1; v++) {
                    WordTerminator x = new WordTerminator();
                    x.ring(ring);
                    x.size(3);
                    x.enter(2, e / 3, e % 3, v);
                    Check.due("ring " + ring + ", place " + e + " is " + v, x.sound(), e == 0 && v < 0 ? 0 : 1);
                }
            }
        }
    }

    // Promise 16.
    private static void valueOfNoSigns() {
        for (int ring = 0; ring <= 2; ring++) {
            for (int size = 1; size <= 3; size++) {
                WordTerminator x = Check.withRules("a>");
                x.ring(ring);
                x.size(size);
                for (int e = 0; e < 9; e++) {
                    int inside = e % 4 == 0 ? ring == 0 ? 1 : 0 : ring == 0 ? 0 : -1;
                    boolean counts = e / 3 < size && e % 3 < size;
                    Check.due("no signs, ring " + ring + ", SIZE " + size + ", place " + e, x.value(0, 1, e / 3, e % 3),
                        counts ? inside : -2);
                }
            }
        }
    }

    private static void valueOfOneSign() {
        int[] entries = {-1, 0, 999, 5, -1, 1, 0, 999, -1};
        for (int ring = 0; ring <= 2; ring++) {
            WordTerminator x = Check.withRules("c>c");
            x.ring(ring);
            x.size(3);
            Check.matrix(x, 2, 3, entries);
            for (int e = 0; e < 9; e++) {
                int want = ring == 0 ? Math.max(0, entries[e]) : entries[e];
                Check.due("c, ring " + ring + ", place " + e, x.value(0, 0, e / 3, e % 3), want);
                Check.due("c on the right", x.value(0, 1, e / 3, e % 3), want);
            }
        }
    }

    private static void valueAtTheLimit() {
        for (int summand = 279; summand <= 282; summand++) {
            WordTerminator x = new WordTerminator();
            Limits.rule(x, "abcd=abcd", summand);
            int want = summand <= 280 ? 2147483367 + summand : -5;
            for (int s = 0; s <= 1; s++) {
                Check.due("summand " + summand + ", side " + s, x.value(0, s, 0, 0), want);
                Check.due("OVER is the whole", x.value(0, s, 0, 1), summand <= 280 ? 1 : -5);
                Check.due("BAD ahead of it", x.value(0, s, 0, 2), -2);
            }
            x.ring(2);
            Check.due("by ARCTIC it is no matter", x.value(0, 0, 0, 0), 2 + 3 * 999);
        }
    }

    // As an int 256 to the fourth is 0; so is 512 to the sixth, by any number of bits up to 54.
    private static void valueThatWouldWrap() {
        WordTerminator x = Check.withRules("aaaa>", "aaaaaa>", "aaa>");
        x.enter(0, 0, 0, 256);
        Check.due("256 to the fourth", x.value(0, 0, 0, 0), -5);
        Check.due("256 to the third", x.value(2, 0, 0, 0), 16777216);
        x.enter(0, 0, 0, 512);
        Check.due("512 to the sixth", x.value(1, 0, 0, 0), -5);
        x.enter(0, 0, 0, 216);
        Check.due("216 to the fourth is 2176782336", x.value(0, 0, 0, 0), -5);
        x.enter(0, 0, 0, 215);
        Check.due("215 to the fourth", x.value(0, 0, 0, 0), 2136750625);
        x.enter(0, 0, 0, 999);
        x.size(3);
        for (int e = 0; e < 9; e++) {
            x.enter(0, e / 3, e % 3, 999);
        }
        Check.due("9 times 999 to the third is above", x.value(2, 0, 0, 0), -5);
        for (int e = 0; e < 9; e++) {
            x.enter(0, e / 3, e % 3, 620);
        }
        Check.due("9 times 620 to the third", x.value(2, 0, 2, 2), 2144952000);
        Check.due("its fourth is above", x.value(0, 0, 2, 2), -5);
    }

    private static void valueOverAtAnyPlace() {
        for (int e = 0; e < 9; e++) {
            WordTerminator x = Check.withRules("aabbb>", "aabb>");
            x.size(3);
            for (int f = 0; f < 9; f++) {
                x.enter(0, f / 3, f % 3, f % 4 == 0 ? 1 : 0);
                x.enter(1, f / 3, f % 3, f % 4 == 0 ? 999 : 0);
            }
            Check.due("999 to the third", x.value(0, 0, 0, 0), 997002999);
            // aa has 4 there: 2 times 2 where row and column are alike, else 2 and 2.
            x.enter(0, e / 3, e % 3, 2);
            Check.due("place " + e + " alone is OVER", x.value(0, 0, 0, 0), -5);
            Check.due("place " + e + " of aabb", x.value(1, 0, e / 3, e % 3), 4 * 998001);
        }
    }

    private static void valueOverAtAnyBeginning() {
        for (int zeros = 0; zeros <= 6; zeros++) {
            WordTerminator x = new WordTerminator();
            String left = "aaaaaa".substring(0, 6 - zeros) + "bbbbbb".substring(0, zeros);
            Check.rule(x, left + ">" + left);
            x.enter(0, 0, 0, 999);
            x.enter(1, 0, 0, 0);
            int want = zeros <= 2 ? -5 : 0;
            Check.due("left " + left, x.value(0, 0, 0, 0), want);
            Check.due("right " + left, x.value(0, 1, 0, 0), want);
            Check.due("weak " + left, x.info(0, 3), zeros <= 2 ? 0 : 1);
        }
        WordTerminator y = Check.withRules("baaaaa>");
        y.enter(0, 0, 0, 999);
        y.enter(1, 0, 0, 0);
        Check.due("0 ahead of all", y.value(0, 0, 0, 0), 0);
    }

    private static void greatestTropicAndArctic() {
        for (int ring = 1; ring <= 2; ring++) {
            WordTerminator x = Check.withRules("aaaaaa>aaaaaa", "a>");
            x.ring(ring);
            x.size(3);
            for (int e = 0; e < 9; e++) {
                x.enter(0, e / 3, e % 3, 999);
            }
            for (int e = 0; e < 9; e++) {
                Check.due("six times 999", x.value(0, 0, e / 3, e % 3), 5994);
            }
            for (int e = 0; e < 9; e++) {
                x.enter(0, e / 3, e % 3, 0);
            }
            Check.due("six times 0", x.value(0, 0, 2, 2), 0);
            for (int e = 0; e < 9; e++) {
                x.enter(0, e / 3, e % 3, -1);
            }
            Check.due("six times NONE", x.value(0, 0, 0, 0), -1);
            Check.due("NONE and NONE: weak", x.info(0, 3), 1);
            Check.due("NONE and NONE everywhere: falls", x.info(0, 4), 1);
            Check.due("but it is not sound", x.sound(), 0);
            Check.due("so no stage", x.stage(), -3);
        }
    }

    private static void judged(int ring, int left, int right, int weak, int falls) {
        WordTerminator x = Check.withRules("a>b");
        x.ring(ring);
        x.enter(0, 0, 0, left);
        x.enter(1, 0, 0, right);
        Check.due("ring " + ring + ", " + left + " and " + right + ": weak", x.info(0, 3), weak);
        Check.due("ring " + ring + ", " + left + " and " + right + ": falls", x.info(0, 4), falls);
    }

    private static void noneAgainstNumbers() {
        for (int number : new int[] {0, 1, 999}) {
            judged(1, -1, number, 1, 1);
            judged(1, number, -1, 0, 0);
            judged(2, -1, number, 0, 0);
            judged(2, number, -1, 1, 1);
            judged(0, number, -1, 1, number == 0 ? 0 : 1);
            judged(0, -1, number, number == 0 ? 1 : 0, 0);
        }
        for (int ring = 0; ring <= 2; ring++) {
            judged(ring, 999, 998, 1, 1);
            judged(ring, 998, 999, 0, 0);
            judged(ring, 999, 999, 1, 0);
            judged(ring, 0, 0, 1, 0);
            judged(ring, 1, 0, 1, 1);
            judged(ring, 0, 1, 0, 0);
            judged(ring, -1, -1, 1, ring == 0 ? 0 : 1);
        }
    }
}
