/** Promise 11 against all FILLS gone through one by one, on TABLETS written by dice. */
public final class BlockTest {
    private static final Due.Dice DICE = new Due.Dice(11);
    private static final int[] STEPS = {3, 4, 2};
    private static final int[] WORTHS = {1, 3, 12, 24};

    public static void main(String[] args) {
        for (int run = 0; run < 400; run++) {
            new Tablet().compare();
        }
        Due.done();
    }

    /** One BLOCK of GOOD 5 by a SYSTEM of four SIGNS, LINES of GOOD 6 between. */
    private static final class Tablet {
        private final int lines = DICE.from(1, 5);
        private final boolean closed = DICE.below(4) > 0;
        private final int[] sign = new int[lines];
        private final int[] base = new int[lines];
        private final int[] place = new int[lines];
        // What is lost: on which LINE, worth how much each, how many at most.
        private final int[] onLine = new int[3];
        private final int[] worth = new int[3];
        private final int[] most = new int[3];
        private int lost = 0;
        private int marks = 0;
        private boolean whole = false;
        private final StringBuilder text = new StringBuilder();

        private final int[] least = new int[lines];
        private final int[] greatest = new int[lines];
        private long fills = 0;

        Tablet() {
            int row = 0;
            for (int line = 0; line < lines; line++) {
                if (DICE.below(3) == 0) {
                    text.append("in good 6 1 a; ");
                    row++;
                }
                place[line] = row;
                row++;
                boolean sum = closed && line == lines - 1;
                boolean in = !sum && DICE.below(3) > 0;
                sign[line] = in ? 1 : -1;
                text.append(sum ? "sum" : in ? "in" : "out").append(" good 5");
                numeral(line);
                text.append("; ");
            }
        }

        private void numeral(int line) {
            // A lost one goes through all it may be only where the marks leave few FILLS.
            if (!whole && marks < 2 && DICE.below(5) == 0) {
                whole = true;
                lose(line, 1, 99999);
                text.append(" lost");
                return;
            }
            boolean some = false;
            for (int s = 3; s >= 0; s--) {
                if (DICE.below(2) == 0 || s == 0 && !some) {
                    some = true;
                    boolean small = s < 3 || !whole;
                    if (marks < (whole ? 1 : 2) && small && DICE.below(3) == 0) {
                        marks++;
                        lose(line, WORTHS[s], s == 3 ? 99 : STEPS[s] - 1);
                        text.append(" ? ");
                    } else {
                        int count = DICE.below(s == 3 ? 5 : STEPS[s]);
                        base[line] += count * WORTHS[s];
                        text.append(' ').append(count).append(' ');
                    }
                    text.append("abcd".charAt(s));
                }
            }
        }

        private void lose(int line, int each, int atMost) {
            onLine[lost] = line;
            worth[lost] = each;
            most[lost] = atMost;
            lost++;
        }

        void compare() {
            if (possible() > 20000000L) {
                return;
            }
            java.util.Arrays.fill(least, Integer.MAX_VALUE);
            java.util.Arrays.fill(greatest, -1);
            goThrough(0, base.clone());
            ClayHouse x = new ClayHouse();
            Due.is("drop e", x.step(2, 3, 0), true);
            for (int i = 0; i < 3; i++) {
                Due.is("step", x.step(2, i, STEPS[i]), true);
            }
            Due.is("good", x.good(5, 2), true);
            Due.tablet(x, 4, text.toString(), place[lines - 1] + 1);
            for (int line = 0; line < lines; line++) {
                Due.is("fills of " + text, x.line(4, place[line], 4), Math.min(fills, 999999999));
                Due.is("least of " + text, x.line(4, place[line], 2), fills == 0 ? -1 : least[line]);
                Due.is("greatest of " + text, x.line(4, place[line], 3), fills == 0 ? -1 : greatest[line]);
            }
        }

        private long possible() {
            long all = 1;
            for (int i = 0; i < lost; i++) {
                all *= most[i] + 1;
            }
            return all;
        }

        private void goThrough(int i, int[] worths) {
            if (i == lost) {
                int total = 0;
                for (int line = 0; line < lines; line++) {
                    total += sign[line] * worths[line];
                }
                if (!closed || total == 0) {
                    fills++;
                    for (int line = 0; line < lines; line++) {
                        least[line] = Math.min(least[line], worths[line]);
                        greatest[line] = Math.max(greatest[line], worths[line]);
                    }
                }
                return;
            }
            for (int v = 0; v <= most[i]; v++) {
                worths[onLine[i]] += v * worth[i];
                goThrough(i + 1, worths);
                worths[onLine[i]] -= v * worth[i];
            }
        }
    }
}
