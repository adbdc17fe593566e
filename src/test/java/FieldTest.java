import java.math.BigInteger;

/** Promise 38: field; promise 39: look. */
public final class FieldTest {
    public static void main(String[] args) {
        wrongOnes();
        scribes();
        byDiagonal();
        most();
        againstBigNumbers();
        look();
        Due.done();
    }

    private static void wrongOnes() {
        ClayHouse x = new ClayHouse();
        for (int what = 0; what < 3; what++) {
            for (int bad : new int[] {0, -1, 1000, Integer.MIN_VALUE, Integer.MAX_VALUE}) {
                Due.is("a", x.field(bad, 10, 10, 10, 10, what), -1);
                Due.is("b", x.field(10, bad, 10, 10, 10, what), -1);
                Due.is("c", x.field(10, 10, bad, 10, 10, what), -1);
                Due.is("d", x.field(10, 10, 10, bad, 10, what), -1);
            }
        }
        Due.is("what -1", x.field(1, 1, 1, 1, 1, -1), -1);
        Due.is("what 3", x.field(1, 1, 1, 1, 1, 3), -1);
    }

    private static void scribes() {
        ClayHouse x = new ClayHouse();
        Due.is("downwards", x.field(1, 2, 2, 3, 0, 0), 15 / 4);
        Due.is("e is not asked for", x.field(10, 20, 30, 40, Integer.MIN_VALUE, 0), 600);
        Due.is("the greatest", x.field(999, 999, 999, 999, 0, 0), 999 * 999);
        Due.is("the least", x.field(1, 1, 1, 1, 0, 0), 1);
        Due.is("sides that meet nowhere", x.field(1, 1, 1, 900, 0, 0), 450);
    }

    private static void byDiagonal() {
        ClayHouse x = new ClayHouse();
        Due.is("3 4 5", x.field(3, 4, 3, 4, 5, 1), 12);
        Due.is("two unlike ones", x.field(3, 4, 5, 12, 5, 1), -1);
        Due.is("3 4 5 and 5 12 13 by 5", x.field(3, 4, 12, 13, 5, 1), 36);
        Due.is("the first is flat", x.field(2, 3, 4, 4, 5, 1), -1);
        Due.is("the second is flat", x.field(4, 4, 2, 3, 5, 1), -1);
        Due.is("a less b is e", x.field(8, 3, 6, 6, 5, 1), -1);
        Due.is("b less a is e", x.field(3, 8, 6, 6, 5, 1), -1);
        Due.is("e 0", x.field(3, 3, 3, 3, 0, 1), -1);
        Due.is("e -1", x.field(3, 3, 3, 3, -1, 1), -1);
        Due.is("e least", x.field(3, 3, 3, 3, Integer.MIN_VALUE, 1), -1);
        Due.is("e greatest", x.field(999, 999, 999, 999, Integer.MAX_VALUE, 1), -1);
        // ROOTS of 3 and 3 are 1 and 1: together by 4 is 0.
        Due.is("small ones", x.field(1, 1, 1, 1, 1, 1), 0);
        // ROOTS of 15 and 15: 3 and 3, by 4 together 1, each by itself 0.
        Due.is("added, then by 4", x.field(2, 2, 2, 2, 1, 1), 1);
    }

    private static void most() {
        ClayHouse x = new ClayHouse();
        Due.is("3 4 3 4", x.field(3, 4, 3, 4, 0, 2), 12);
        Due.is("e is not asked for", x.field(3, 4, 3, 4, Integer.MAX_VALUE, 2), 12);
        Due.is("flat by a", x.field(9, 3, 3, 3, 0, 2), -1);
        Due.is("flat by b", x.field(3, 9, 3, 3, 0, 2), -1);
        Due.is("flat by c", x.field(3, 3, 9, 3, 0, 2), -1);
        Due.is("flat by d", x.field(3, 3, 3, 9, 0, 2), -1);
        Due.is("just not flat", x.field(3, 3, 3, 8, 0, 2), (int) Math.sqrt(11 * 11 * 11 * 1.0) / 4);
        Due.is("the greatest", x.field(999, 999, 999, 999, 0, 2), 999 * 999);
    }

    private static void againstBigNumbers() {
        ClayHouse x = new ClayHouse();
        Due.Dice dice = new Due.Dice(38);
        for (int run = 0; run < 500; run++) {
            int a = dice.from(1, 999);
            int b = dice.from(1, 999);
            int c = dice.from(1, 999);
            int d = dice.from(1, 999);
            int e = dice.from(1, 1500);
            String sides = a + " " + b + " " + c + " " + d + " " + e;
            Due.is("scribes " + sides, x.field(a, b, c, d, e, 0), (long) (a + c) * (b + d) / 4);
            long one = root(a + b + e, b + e - a, a + e - b, a + b - e);
            long other = root(c + d + e, d + e - c, c + e - d, c + d - e);
            Due.is("true " + sides, x.field(a, b, c, d, e, 1), one < 0 || other < 0 ? -1 : (one + other) / 4);
            long most = root(b + c + d - a, a + c + d - b, a + b + d - c, a + b + c - d);
            Due.is("most " + sides, x.field(a, b, c, d, e, 2), most < 0 ? -1 : most / 4);
        }
    }

    private static long root(int... parts) {
        BigInteger product = BigInteger.ONE;
        for (int part : parts) {
            if (part < 1) {
                return -1;
            }
            product = product.multiply(BigInteger.valueOf(part));
        }
        return product.sqrt().longValueExact();
    }

    private static void look() {
        ClayHouse x = new ClayHouse();
        x.year();
        for (int i = 0; i < 2; i++) {
            x.person(0, 1, -1);
        }
        for (int i = 0; i < 3; i++) {
            x.seal();
        }
        for (int i = 0; i < 4; i++) {
            x.fragment(0);
        }
        for (int i = 0; i < 5; i++) {
            x.flock(1, 1, 1);
        }
        for (int i = 0; i < 6; i++) {
            x.loan(0, 0, 1);
        }
        for (int k = 0; k < 7; k++) {
            x.tablet(k);
        }
        Due.rules(x, "give 4 good 0;give 0 good 0;", 2);
        x.month(0);
        for (int ball = 0; ball < 8; ball++) {
            x.tell(ball, 10, 0);
        }
        for (int g = 0; g < 8; g++) {
            x.store(g, 100 + g);
        }
        long[] due = {1, 2, 3, 4, 5, 6, 7, 8, 2, 8, 100, 101, 102, 103, 104, 105, 106, 107};
        for (int what = 0; what < due.length; what++) {
            Due.is("look(" + what + ")", x.look(what), due[what]);
        }
        for (int what : new int[] {-1, 18, 100, Integer.MIN_VALUE, Integer.MAX_VALUE}) {
            Due.is("look(" + what + ")", x.look(what), -1);
        }
    }
}
