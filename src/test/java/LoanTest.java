/** Promises 33 to 37: interest, loan, pay, edict, owed. */
public final class LoanTest {
    public static void main(String[] args) {
        interests();
        loans();
        wrongPayments();
        twoHundredPayments();
        owedByInterest();
        mostOwed();
        paymentsAsKnown();
        edicts();
        againstAnotherReckoning();
        Due.done();
    }

    private static ClayHouse withPerson() {
        ClayHouse x = new ClayHouse();
        x.person(0, 30, -1);
        return x;
    }

    private static void interests() {
        ClayHouse x = withPerson();
        x.loan(0, 2, 1000);
        Due.is("g -1", x.interest(-1, 0), false);
        Due.is("g 8", x.interest(8, 0), false);
        Due.is("v -1", x.interest(2, -1), false);
        Due.is("v 101", x.interest(2, 101), false);
        Due.is("33 at first", x.owed(0, 1, 0), 1330);
        Due.is("100", x.interest(2, 100), true);
        Due.is("for all loans and years", x.owed(0, 2, 0), 4000);
        Due.is("another good", x.interest(3, 0), true);
        Due.is("stays", x.owed(0, 1, 0), 2000);
        Due.is("0", x.interest(2, 0), true);
        Due.is("none", x.owed(0, 99, 0), 1000);
        ClayHouse y = withPerson();
        for (int g = 0; g < 8; g++) {
            y.loan(0, g, 100);
            Due.is("33 of all goods", y.owed(g, 1, 0), 133);
        }
    }

    private static void loans() {
        ClayHouse x = withPerson();
        Due.is("p -1", x.loan(-1, 0, 1), -1);
        Due.is("p 1", x.loan(1, 0, 1), -1);
        Due.is("g -1", x.loan(0, -1, 1), -1);
        Due.is("g 8", x.loan(0, 8, 1), -1);
        Due.is("sum 0", x.loan(0, 0, 0), -1);
        Due.is("sum 100000", x.loan(0, 0, 100000), -1);
        Due.is("none came", x.look(5), 0);
        x.year();
        for (int loan = 0; loan < 40; loan++) {
            Due.is("loan", x.loan(0, loan % 8, loan == 0 ? 99999 : loan), loan);
        }
        Due.is("a 41st", x.loan(0, 0, 1), -1);
        Due.is("look(5)", x.look(5), 40);
        Due.is("its year", x.owed(0, 1, 0), 99999);
        Due.is("its year", x.owed(39, 1, 0), 39);
        Due.is("ahead of it", x.owed(39, 0, 0), -1);
        Due.is("loan -1", x.owed(-1, 1, 0), -1);
        Due.is("loan 40", x.owed(40, 1, 0), -1);
        Due.is("year -1", x.owed(0, -1, 0), -1);
        Due.is("year 100", x.owed(0, 100, 0), -1);
        Due.is("k -1", x.owed(0, 1, -1), -1);
        Due.is("k 100", x.owed(0, 1, 100), -1);
        Due.is("k 99", x.owed(0, 1, 99), 99999);
    }

    private static void wrongPayments() {
        ClayHouse x = withPerson();
        x.year();
        x.loan(0, 0, 1000);
        x.year();
        Due.is("loan -1", x.pay(-1, 1, 1), false);
        Due.is("loan 1", x.pay(1, 1, 1), false);
        Due.is("ahead of the loan", x.pay(0, 0, 1), false);
        Due.is("later than now", x.pay(0, 3, 1), false);
        Due.is("0", x.pay(0, 1, 0), false);
        Due.is("-1", x.pay(0, 1, -1), false);
        Due.is("100000", x.pay(0, 1, 100000), false);
        Due.is("nothing was done", x.owed(0, 2, 2), 1330);
        Due.is("1", x.pay(0, 1, 1), true);
        Due.is("999", x.owed(0, 2, 2), 999 + 329);
        Due.is("99999 in now", x.pay(0, 2, 99999), true);
        Due.is("0 at least", x.owed(0, 3, 2), 0);
        Due.is("0 at least", x.owed(0, 4, 2), 0);
    }

    private static void twoHundredPayments() {
        ClayHouse x = withPerson();
        x.loan(0, 0, 99999);
        x.loan(0, 0, 99999);
        x.interest(0, 0);
        for (int i = 0; i < 200; i++) {
            Due.is("pay", x.pay(i % 2, 0, 1), true);
        }
        Due.is("201st", x.pay(0, 0, 1), false);
        Due.is("100 on each", x.owed(0, 1, 0), 99899);
        Due.is("100 on each", x.owed(1, 1, 0), 99899);
    }

    private static void owedByInterest() {
        ClayHouse x = withPerson();
        x.loan(0, 0, 10);
        Due.is("downwards", x.owed(0, 1, 0), 13);
        Due.is("downwards", x.owed(0, 2, 0), 13 + 4);
        Due.is("downwards", x.owed(0, 3, 0), 17 + 5);
    }

    private static void mostOwed() {
        ClayHouse x = withPerson();
        x.loan(0, 0, 99999);
        x.interest(0, 100);
        Due.is("just below", x.owed(0, 23, 0), 99999L << 23);
        Due.is("at most", x.owed(0, 24, 0), 999999999999L);
        Due.is("at most", x.owed(0, 99, 0), 999999999999L);
        x.interest(0, 0);
        Due.is("now without", x.owed(0, 99, 0), 99999);
    }

    private static void paymentsAsKnown() {
        ClayHouse x = withPerson();
        x.loan(0, 0, 1000);
        x.year();
        x.year();
        Due.is("told in 2 for 0", x.pay(0, 0, 500), true);
        Due.is("told in 2 for 1", x.pay(0, 1, 65), true);
        x.year();
        Due.is("told in 3 for 0", x.pay(0, 0, 100), true);
        Due.is("its own year", x.owed(0, 0, 3), 1000);
        Due.is("1 at 1", x.owed(0, 1, 1), 1330);
        Due.is("1 at 2", x.owed(0, 1, 2), 665);
        Due.is("1 at 3", x.owed(0, 1, 3), 532);
        Due.is("2 at 2", x.owed(0, 2, 2), 600 + 198);
        Due.is("2 at 1", x.owed(0, 2, 1), 1330 + 438);
        Due.is("2 at 99", x.owed(0, 2, 99), 467 + 154);
    }

    private static void edicts() {
        ClayHouse x = withPerson();
        x.loan(0, 4, 1000);
        x.loan(0, 5, 1000);
        Due.is("g -1", x.edict(-1), false);
        Due.is("g 8", x.edict(8), false);
        Due.is("in the loan's own year", x.edict(4), true);
        Due.is("told", x.edict(4), false);
        Due.is("sum in its own year", x.owed(0, 0, 0), 1000);
        Due.is("not for the next year", x.owed(0, 1, 1), 1330);
        x.year();
        x.year();
        Due.is("again in another year", x.edict(4), true);
        Due.is("told", x.edict(4), false);
        Due.is("another good", x.edict(7), true);
        Due.is("known at 2", x.owed(0, 2, 2), 0);
        Due.is("known later", x.owed(0, 2, 3), 0);
        Due.is("not at 1", x.owed(0, 2, 1), 1768);
        Due.is("the year ahead", x.owed(0, 1, 2), 1330);
        Due.is("0 stays 0", x.owed(0, 9, 2), 0);
        Due.is("another good", x.owed(1, 2, 2), 1768);
        Due.is("a loan of the edict's year", x.loan(0, 4, 10), 2);
        Due.is("stays", x.owed(2, 2, 2), 10);
        Due.is("stays", x.owed(2, 3, 3), 13);
        for (int i = 2; i < 99; i++) {
            x.year();
        }
        ClayHouse y = new ClayHouse();
        for (int year = 0; year < 100; year += 99) {
            for (int g = 0; g < 8; g++) {
                Due.is("each good", y.edict(g), true);
                Due.is("each good once", y.edict(g), false);
            }
            for (int i = 0; i < 99; i++) {
                y.year();
            }
        }
        Due.is("in the last year", x.edict(5), true);
        Due.is("0 in the last year", x.owed(1, 99, 99), 0);
        Due.is("not at 98", x.owed(1, 99, 98) > 0, true);
    }

    private static void againstAnotherReckoning() {
        Due.Dice dice = new Due.Dice(6);
        for (int run = 0; run < 30; run++) {
            ClayHouse x = withPerson();
            int percent = dice.from(0, 100);
            x.interest(1, percent);
            int came = dice.below(3);
            for (int i = 0; i < came; i++) {
                x.year();
            }
            int sum = dice.from(1, 99999);
            x.loan(0, 1, sum);
            int[][] paid = new int[25][];
            boolean[] edict = new boolean[100];
            int now = came;
            int count = 0;
            while (count < paid.length) {
                int which = dice.below(5);
                if (which < 2) {
                    now = x.year();
                } else if (which == 2 && dice.below(4) == 0) {
                    Due.is("edict", x.edict(1), !edict[now]);
                    edict[now] = true;
                } else {
                    paid[count] = new int[] {dice.from(came, now), now, dice.from(1, 1 + sum / 5)};
                    Due.is("pay", x.pay(0, paid[count][0], paid[count][2]), true);
                    count++;
                }
            }
            for (int ask = 0; ask < 20; ask++) {
                int year = dice.from(came, now + 10);
                int k = dice.from(0, now + 2);
                long due = owed(year, k, came, sum, percent, paid, edict);
                Due.is("owed(0, " + year + ", " + k + ")", x.owed(0, year, k), due);
            }
        }
    }

    private static long owed(int year, int k, int came, int sum, int percent, int[][] paid, boolean[] edict) {
        if (year == came) {
            return sum;
        }
        if (edict[year] && year <= k) {
            return 0;
        }
        long left = owed(year - 1, k, came, sum, percent, paid, edict);
        for (int[] payment : paid) {
            if (payment[0] == year - 1 && payment[1] <= k) {
                left -= payment[2];
            }
        }
        left = Math.max(left, 0);
        return Math.min(999999999999L, left + Math.floorDiv(left * percent, 100L));
    }
}
