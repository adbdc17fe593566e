/** Promises 21 to 23: fragment, edge, row. */
public final class FragmentTest {
    public static void main(String[] args) {
        fragments();
        edges();
        rows();
        eightAlike();
        againstAllRows();
        Due.done();
    }

    private static void fragments() {
        ClayHouse x = new ClayHouse();
        Due.is("hand -1", x.fragment(-1), -1);
        Due.is("hand 4", x.fragment(4), -1);
        for (int f = 0; f < 8; f++) {
            Due.is("fragment", x.fragment(f % 4), f);
            Due.is("look(3)", x.look(3), f + 1);
        }
        Due.is("a ninth", x.fragment(0), -1);
        Due.is("look(3)", x.look(3), 8);
    }

    private static void edges() {
        ClayHouse x = new ClayHouse();
        x.fragment(0);
        Due.is("f -1", x.edge(-1, true, 0, 0), false);
        Due.is("f 1", x.edge(1, true, 0, 0), false);
        Due.is("i -1", x.edge(0, true, -1, 0), false);
        Due.is("i 5", x.edge(0, true, 5, 0), false);
        Due.is("v -10", x.edge(0, true, 0, -10), false);
        Due.is("v 10", x.edge(0, false, 0, 10), false);
        Due.is("v -9", x.edge(0, true, 4, -9), true);
        Due.is("v 9", x.edge(0, false, 4, 9), true);
        x.fragment(0);
        // RIGHT of 0 against LEFT of 1: 9; RIGHT of 1 against LEFT of 0: 9.
        Due.is("gaps", x.row(3, 0), 9);
        Due.is("both ways", x.row(3, 1), 2);
        Due.is("edge", x.edge(1, false, 4, 9), true);
        Due.is("it fits", x.row(3, 0), 0);
        Due.is("one way", x.row(3, 1), 1);
        Due.is("edge", x.edge(1, false, 0, -4), true);
        Due.is("as far as from 0", x.row(3, 0), 4);
        Due.is("edge", x.edge(0, true, 1, 3), true);
        Due.is("one does not make up for the other", x.row(3, 0), 7);
    }

    private static void rows() {
        ClayHouse x = new ClayHouse();
        x.fragment(0);
        x.fragment(1);
        x.fragment(0);
        int[] wrong = {0, 1, 2, 4, 8, 9, 12, 15, -1, -8, Integer.MIN_VALUE, Integer.MAX_VALUE};
        for (int set : wrong) {
            Due.is("set " + set, x.row(set, 0), -1);
        }
        Due.is("unlike hands", x.row(3, 0), 15);
        Due.is("like hands", x.row(5, 0), 0);
        Due.is("all", x.row(7, 0), 15);
        Due.is("four ways", x.row(7, 1), 4);
        Due.is("first", x.row(7, 10), 0);
        Due.is("first", x.row(7, 11), 2);
        Due.is("first", x.row(7, 12), 1);
        Due.is("first of two", x.row(6, 10), 1);
        Due.is("second of two", x.row(6, 11), 2);
        int[] others = {-1, 2, 9, 13, 17, Integer.MAX_VALUE, Integer.MIN_VALUE};
        for (int what : others) {
            Due.is("what " + what, x.row(7, what), -1);
        }
        Due.is("behind two", x.row(6, 12), -1);
    }

    private static void eightAlike() {
        ClayHouse x = new ClayHouse();
        for (int f = 0; f < 8; f++) {
            x.fragment(2);
        }
        Due.is("no gaps", x.row(255, 0), 0);
        Due.is("all orders", x.row(255, 1), 40320);
        for (int k = 0; k < 8; k++) {
            Due.is("by numbers", x.row(255, 10 + k), k);
        }
        Due.is("behind", x.row(255, 18), -1);
        for (int f = 0; f < 8; f++) {
            for (int i = 0; i < 5; i++) {
                x.edge(f, true, i, 9);
                x.edge(f, false, i, 9);
            }
        }
        Due.is("the most", x.row(255, 0), 7 * 90);
    }

    private static void againstAllRows() {
        Due.Dice dice = new Due.Dice(21);
        for (int run = 0; run < 60; run++) {
            ClayHouse x = new ClayHouse();
            int count = dice.from(2, 7);
            int reach = run % 3 == 0 ? 9 : 1;
            int[] hand = new int[count];
            int[][][] edge = new int[2][count][5];
            for (int f = 0; f < count; f++) {
                hand[f] = dice.below(2);
                x.fragment(hand[f]);
                for (int i = 0; i < 5; i++) {
                    edge[0][f][i] = dice.from(-reach, reach);
                    edge[1][f][i] = dice.from(-reach, reach);
                    Due.is("left", x.edge(f, false, i, edge[0][f][i]), true);
                    Due.is("right", x.edge(f, true, i, edge[1][f][i]), true);
                }
            }
            for (int part = 0; part < 4; part++) {
                int set = dice.below(1 << count);
                if (Integer.bitCount(set) >= 2) {
                    new Search(set, hand, edge).compare(x);
                }
            }
        }
    }

    /** Goes through all orders of a set, by numbers. */
    private static final class Search {
        private final int set;
        private final int[] hand;
        private final int[][][] edge;
        private final int[] row;
        private int[] best = null;
        private int least = Integer.MAX_VALUE;
        private int ways = 0;

        Search(int set, int[] hand, int[][][] edge) {
            this.set = set;
            this.hand = hand;
            this.edge = edge;
            row = new int[Integer.bitCount(set)];
        }

        void compare(ClayHouse x) {
            go(0, set, 0);
            Due.is("gaps", x.row(set, 0), least);
            Due.is("ways", x.row(set, 1), ways);
            for (int k = 0; k < row.length; k++) {
                Due.is("row", x.row(set, 10 + k), best[k]);
            }
            Due.is("behind", x.row(set, 10 + row.length), -1);
        }

        private void go(int had, int rest, int gaps) {
            if (rest == 0) {
                if (gaps < least) {
                    least = gaps;
                    ways = 0;
                    best = row.clone();
                }
                ways += gaps == least ? 1 : 0;
            }
            for (int f = 0; f < hand.length; f++) {
                if ((rest & 1 << f) != 0) {
                    row[had] = f;
                    go(had + 1, rest & ~(1 << f), gaps + (had == 0 ? 0 : gap(row[had - 1], f)));
                }
            }
        }

        private int gap(int f, int g) {
            int gap = hand[f] != hand[g] ? 15 : 0;
            for (int i = 0; i < 5; i++) {
                gap += Math.abs(edge[1][f][i] + edge[0][g][i]);
            }
            return gap;
        }
    }
}
