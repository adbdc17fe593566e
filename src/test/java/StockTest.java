/** Promises 8, 11 and 12: STOCK by dice, against the SPANS of all LINES of all TABLETS as they stand. */
public final class StockTest {
    private static final Due.Dice DICE = new Due.Dice(12);
    private static final int TABLETS = 6;

    public static void main(String[] args) {
        for (int run = 0; run < 200; run++) {
            new Shelf().compare();
        }
        Due.done();
    }

    private static final class Shelf {
        private final ClayHouse x = new ClayHouse();
        private final int[] years = new int[TABLETS];
        private final int[] lines = new int[TABLETS];
        private final long[][] least = new long[100][3];
        private final long[][] greatest = new long[100][3];

        // Some TABLETS are read again in a later YEAR: what they were is gone, but not by a FAULT (a 2nd lost).
        Shelf() {
            for (int i = 0; i < 10; i++) {
                if (DICE.below(3) == 0) {
                    x.year();
                }
                int k = DICE.below(TABLETS);
                Due.put(x, text());
                int read = x.tablet(k);
                lines[k] = read == -1 ? lines[k] : read;
                years[k] = read == -1 ? years[k] : (int) x.look(0);
            }
            for (int k = 0; k < TABLETS; k++) {
                for (int i = 0; i < lines[k]; i++) {
                    count(k, i);
                }
            }
        }

        private void count(int k, int i) {
            int sort = x.line(k, i, 0);
            int good = x.line(k, i, 1);
            int from = x.line(k, i, 2);
            int to = x.line(k, i, 3);
            Due.is("year", x.line(k, i, 5), years[k]);
            boolean quarrels = from == -1;
            for (int year = years[k]; year < 100 && sort < 2 && !quarrels; year++) {
                least[year][good] += sort == 0 ? from : -to;
                greatest[year][good] += sort == 0 ? to : -from;
            }
        }

        void compare() {
            for (int year = 0; year < 12; year++) {
                for (int g = 0; g < 3; g++) {
                    Due.is("least at " + year, x.stock(g, year, 0), least[year][g]);
                    Due.is("greatest at " + year, x.stock(g, year, 1), greatest[year][g]);
                }
            }
            Due.is("at the last year", x.stock(0, 99, 0), least[99][0]);
        }

        private static String text() {
            StringBuilder text = new StringBuilder();
            for (int i = DICE.from(1, 2); i > 0; i--) {
                int good = DICE.below(3);
                text.append(DICE.below(3) == 0 ? "in good " : "out good ").append(good);
                text.append(DICE.below(3) == 0 ? " ? b 3 a;" : " 4 a;");
                text.append("in good ").append(good).append(DICE.below(3) == 0 ? " lost;" : " 2 c;");
                if (DICE.below(3) > 0) {
                    text.append("sum good ").append(good);
                    text.append(DICE.below(3) == 0 ? " 1 c 2 b;" : DICE.below(2) == 0 ? " ? c ? a;" : " 1 c 5 b 6 a;");
                } else {
                    text.append("sum good ").append((good + 1) % 3).append(" ? d;");
                }
            }
            return text.toString();
        }
    }
}
