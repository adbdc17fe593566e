/** Promises 27, 28 and 39: MONTHS and rations by dice, against a second reckoning of the STORE. */
public final class MonthTest {
    private static final Due.Dice DICE = new Due.Dice(27);
    private static final String[] FACTS = {"sort", "age", "days", "kids", "month"};

    public static void main(String[] args) {
        for (int run = 0; run < 200; run++) {
            new Temple().live();
        }
        Due.done();
    }

    private static final class Temple {
        private final ClayHouse x = new ClayHouse();
        private final int persons = DICE.from(1, 8);
        private final int[][] facts = new int[persons][5];
        private final int gives = DICE.from(0, 6);
        private final int[] given = new int[gives];
        private final int[] times = new int[gives];
        private final int[] goods = new int[gives];
        private final int[] when = new int[gives];
        private final int[] above = new int[gives];
        private final long[] store = new long[8];
        private long allShort = 0;

        void live() {
            for (int p = 0; p < persons; p++) {
                int mother = DICE.from(-1, p - 1);
                facts[p][0] = DICE.below(4);
                facts[p][1] = DICE.below(100);
                Due.is("person", x.person(facts[p][0], facts[p][1], mother), p);
                if (mother >= 0) {
                    facts[mother][3]++;
                }
            }
            tellRules();
            for (int month = 0; month < 6; month++) {
                fill();
                compareMonth(DICE.below(12));
            }
        }

        // A give by a fact times a NUMBER, some of them only when another fact is above a NUMBER.
        private void tellRules() {
            StringBuilder text = new StringBuilder();
            for (int i = 0; i < gives; i++) {
                given[i] = DICE.below(5);
                times[i] = DICE.below(3) == 0 ? 2000 : DICE.below(4);
                goods[i] = DICE.below(3);
                when[i] = DICE.from(-1, 4);
                above[i] = DICE.below(6);
                text.append("give ").append(FACTS[given[i]]).append('*').append(times[i]).append(" good ").append(goods[i]);
                if (when[i] >= 0) {
                    text.append(" when ").append(FACTS[when[i]]).append('>').append(above[i]);
                }
                text.append("; ");
            }
            Due.rules(x, text.toString(), gives);
        }

        private void fill() {
            for (int g = 0; g < 3; g++) {
                int more = DICE.below(DICE.below(4) == 0 ? 100000 : 300);
                store[g] += more;
                Due.is("store", x.store(g, more), store[g]);
            }
            for (int p = 0; p < persons; p++) {
                if (DICE.below(2) == 0) {
                    facts[p][2] = DICE.below(31);
                    Due.is("works", x.works(p, facts[p][2]), true);
                }
            }
        }

        private int due(int i, int p, int month) {
            facts[p][4] = month;
            boolean holds = when[i] < 0 || facts[p][when[i]] > above[i];
            return holds ? Math.min(9999, facts[p][given[i]] * times[i]) : 0;
        }

        private void compareMonth(int month) {
            long lacked = 0;
            for (int p = 0; p < persons; p++) {
                long[] all = new long[3];
                for (int i = 0; i < gives; i++) {
                    int due = due(i, p, month);
                    all[goods[i]] += due;
                    lacked += Math.max(0, due - store[goods[i]]);
                    store[goods[i]] = Math.max(0, store[goods[i]] - due);
                }
                for (int g = 0; g < 3; g++) {
                    Due.is("ration", x.ration(p, g, month), all[g]);
                }
            }
            Due.is("month", x.month(month), lacked);
            allShort += lacked;
            Due.is("all short", x.look(7), allShort);
            for (int g = 0; g < 8; g++) {
                Due.is("in the store", x.look(10 + g), store[g]);
            }
            for (int p = 0; p < persons; p++) {
                facts[p][2] = 0;
            }
        }
    }
}
