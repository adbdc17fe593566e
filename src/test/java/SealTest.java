/** Promises 17 to 20: seal, over, order, ahead. */
public final class SealTest {
    public static void main(String[] args) {
        none();
        ten();
        overs();
        orders();
        rings();
        againstAllOrders();
        Due.done();
    }

    private static void none() {
        ClayHouse x = new ClayHouse();
        Due.is("one order of none", x.order(0), 1);
        Due.is("no first", x.order(10), -1);
        Due.is("no ring", x.order(20), -1);
        Due.is("no ring", x.order(21), -1);
        Due.is("ahead", x.ahead(0, 0), -1);
        Due.is("over", x.over(0, 0), false);
    }

    private static void ten() {
        ClayHouse x = new ClayHouse();
        for (int p = 0; p < 10; p++) {
            Due.is("seal", x.seal(), p);
        }
        Due.is("an eleventh", x.seal(), -1);
        Due.is("look(2)", x.look(2), 10);
        Due.is("all orders", x.order(0), 3628800);
        Due.is("the last one", x.order(19), 9);
        int[] others = {-1, 1, 9, 20, 21, 30, 31, Integer.MAX_VALUE, Integer.MIN_VALUE};
        for (int what : others) {
            Due.is("order " + what, x.order(what), -1);
        }
        for (int p = 0; p < 9; p++) {
            Due.is("over", x.over(p, p + 1), true);
        }
        Due.is("one order", x.order(0), 1);
        Due.is("the other way", x.order(10), 9);
        Due.is("the other way", x.order(19), 0);
        Due.is("ahead", x.ahead(9, 0), 1);
        Due.is("behind", x.ahead(0, 9), 0);
        Due.is("a ring", x.over(9, 0), true);
        Due.is("no order", x.order(0), 0);
        Due.is("ten", x.order(20), 10);
        for (int k = 0; k < 10; k++) {
            Due.is("ring", x.order(21 + k), k);
        }
        Due.is("behind the ring", x.order(31), -1);
        Due.is("no first", x.order(10), -1);
        Due.is("no ahead", x.ahead(9, 0), -1);
    }

    private static void overs() {
        ClayHouse x = new ClayHouse();
        x.seal();
        x.seal();
        Due.is("none such", x.over(0, 2), false);
        Due.is("none such", x.over(2, 0), false);
        Due.is("none such", x.over(-1, 0), false);
        Due.is("none such", x.over(0, -1), false);
        Due.is("the same", x.over(1, 1), false);
        Due.is("over", x.over(0, 1), true);
        Due.is("told", x.over(0, 1), false);
        Due.is("the other way too", x.over(1, 0), true);
        Due.is("no order", x.order(0), 0);
        Due.is("ring of two", x.order(20), 2);
        Due.is("ring", x.order(21), 0);
        Due.is("ring", x.order(22), 1);
        Due.is("ring", x.order(23), -1);
        Due.is("ahead of itself", x.ahead(1, 1), -1);
    }

    private static void orders() {
        ClayHouse x = new ClayHouse();
        for (int p = 0; p < 4; p++) {
            x.seal();
        }
        Due.is("0 over 3", x.over(0, 3), true);
        Due.is("twelve", x.order(0), 12);
        Due.is("first", x.order(10), 1);
        Due.is("first", x.order(11), 2);
        Due.is("first", x.order(12), 3);
        Due.is("first", x.order(13), 0);
        Due.is("behind", x.order(14), -1);
        Due.is("3 ahead of 0", x.ahead(3, 0), 1);
        Due.is("0 ahead of 3", x.ahead(0, 3), 0);
        Due.is("some", x.ahead(1, 0), 2);
        Due.is("none such", x.ahead(1, 4), -1);
        Due.is("none such", x.ahead(-1, 0), -1);
        Due.is("itself", x.ahead(1, 1), -1);
        Due.is("3 over 1", x.over(3, 1), true);
        Due.is("1 ahead of 0 by 3", x.ahead(1, 0), 1);
        Due.is("0 ahead of 1", x.ahead(0, 1), 0);
        Due.is("four", x.order(0), 4);
        Due.is("first", x.order(10), 1);
        Due.is("first", x.order(11), 2);
    }

    private static void rings() {
        ClayHouse x = new ClayHouse();
        for (int p = 0; p < 8; p++) {
            x.seal();
        }
        int[][] over = {{0, 5}, {5, 6}, {6, 7}, {7, 0}, {2, 4}, {4, 3}, {3, 2}, {1, 6}, {6, 3}};
        for (int[] pair : over) {
            Due.is("over", x.over(pair[0], pair[1]), true);
        }
        Due.is("the fewest", x.order(20), 3);
        Due.is("ring", x.order(21), 2);
        Due.is("ring", x.order(22), 4);
        Due.is("ring", x.order(23), 3);
        Due.is("over", x.over(2, 3), true);
        Due.is("two are fewer", x.order(20), 2);
        Due.is("ring", x.order(21), 2);
        Due.is("ring", x.order(22), 3);
        Due.is("over", x.over(6, 1), true);
        Due.is("the first by numbers", x.order(21), 1);
        Due.is("the first by numbers", x.order(22), 6);
    }

    private static void againstAllOrders() {
        Due.Dice dice = new Due.Dice(8);
        for (int run = 0; run < 300; run++) {
            ClayHouse x = new ClayHouse();
            int count = dice.from(1, 6);
            boolean[][] over = new boolean[count][count];
            for (int p = 0; p < count; p++) {
                x.seal();
            }
            for (int i = dice.below(count * 2); i > 0; i--) {
                int p = dice.below(count);
                int q = dice.below(count);
                // Every other run is kept without a RING.
                boolean fits = run % 2 == 0 ? p > q : p != q;
                if (fits) {
                    Due.is("over", x.over(p, q), !over[p][q]);
                    over[p][q] = true;
                }
            }
            compareOrders(x, count, over);
        }
    }

    private static void compareOrders(ClayHouse x, int count, boolean[][] over) {
        int all = 0;
        int[] first = null;
        int[][] ahead = new int[count][count];
        int[] order = new int[count];
        long codes = 1;
        for (int i = 0; i < count; i++) {
            codes *= count;
        }
        for (long code = 0; code < codes; code++) {
            long rest = code;
            for (int i = count - 1; i >= 0; i--) {
                order[i] = (int) (rest % count);
                rest /= count;
            }
            if (isOrder(order, over)) {
                all++;
                first = first == null ? order.clone() : first;
                for (int i = 0; i < count; i++) {
                    for (int j = i + 1; j < count; j++) {
                        ahead[order[i]][order[j]]++;
                    }
                }
            }
        }
        Due.is("orders", x.order(0), all);
        for (int i = 0; i < count; i++) {
            Due.is("first order", x.order(10 + i), first == null ? -1 : first[i]);
            for (int j = 0; j < count; j++) {
                int due = all == 0 || i == j ? -1 : ahead[i][j] == all ? 1 : ahead[i][j] == 0 ? 0 : 2;
                Due.is("ahead " + i + " " + j, x.ahead(i, j), due);
            }
        }
        compareRing(x, count, over, all > 0);
    }

    private static boolean isOrder(int[] order, boolean[][] over) {
        for (int i = 0; i < order.length; i++) {
            for (int j = i; j < order.length; j++) {
                if (over[order[i]][order[j]] || i != j && order[i] == order[j]) {
                    return false;
                }
            }
        }
        return true;
    }

    private static void compareRing(ClayHouse x, int count, boolean[][] over, boolean hasOrder) {
        int[] ring = null;
        for (int length = 2; length <= count && ring == null && !hasOrder; length++) {
            ring = firstRing(new int[length], 0, count, over);
        }
        Due.is("ring", x.order(20), ring == null ? -1 : ring.length);
        for (int k = 0; k < count; k++) {
            Due.is("ring " + k, x.order(21 + k), ring == null || k >= ring.length ? -1 : ring[k]);
        }
    }

    // The first by numbers of all rows of this length that go round and begin with their least.
    private static int[] firstRing(int[] row, int had, int count, boolean[][] over) {
        if (had == row.length) {
            return over[row[had - 1]][row[0]] ? row : null;
        }
        for (int p = had == 0 ? 0 : row[0] + 1; p < count; p++) {
            boolean fits = had == 0 || over[row[had - 1]][p];
            for (int i = 0; i < had; i++) {
                fits &= row[i] != p;
            }
            if (fits) {
                row[had] = p;
                int[] ring = firstRing(row, had + 1, count, over);
                if (ring != null) {
                    return ring;
                }
            }
        }
        return null;
    }
}
