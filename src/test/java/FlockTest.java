/** Promises 29 to 32: book, flock, found, flockAt. */
public final class FlockTest {
    public static void main(String[] args) {
        books();
        flocks();
        wrongFound();
        hundredFound();
        byTheBook();
        mostBooked();
        foundAsKnown();
        arrears();
        againstAnotherBook();
        Due.done();
    }

    private static void books() {
        ClayHouse x = new ClayHouse();
        x.flock(100, 0, 0);
        Due.is("rate -1", x.book(-1, 0), false);
        Due.is("rate 201", x.book(201, 0), false);
        Due.is("loss -1", x.book(0, -1), false);
        Due.is("loss 101", x.book(0, 101), false);
        Due.is("66 at first", x.flockAt(0, 1, 0, 2), 66);
        Due.is("15 at first", x.flockAt(0, 1, 0, 0), 85);
        Due.is("200 and 100", x.book(200, 100), true);
        Due.is("lambs", x.flockAt(0, 1, 0, 2), 200);
        Due.is("ewes", x.flockAt(0, 1, 0, 0), 0);
        Due.is("0 and 0", x.book(0, 0), true);
        Due.is("lambs", x.flockAt(0, 1, 0, 2), 0);
        Due.is("ewes", x.flockAt(0, 1, 0, 0), 100);
    }

    private static void flocks() {
        ClayHouse x = new ClayHouse();
        Due.is("ewes -1", x.flock(-1, 0, 0), -1);
        Due.is("ewes 10000", x.flock(10000, 0, 0), -1);
        Due.is("wethers -1", x.flock(0, -1, 0), -1);
        Due.is("wethers 10000", x.flock(0, 10000, 0), -1);
        Due.is("lambs -1", x.flock(0, 0, -1), -1);
        Due.is("lambs 10000", x.flock(0, 0, 10000), -1);
        Due.is("none came", x.look(4), 0);
        x.year();
        for (int f = 0; f < 6; f++) {
            Due.is("flock", x.flock(9999, f, 9999 - f), f);
        }
        Due.is("a seventh", x.flock(0, 0, 0), -1);
        Due.is("look(4)", x.look(4), 6);
        Due.is("ewes", x.flockAt(5, 1, 0, 0), 9999);
        Due.is("wethers", x.flockAt(5, 1, 0, 1), 5);
        Due.is("lambs", x.flockAt(5, 1, 0, 2), 9994);
        Due.is("no arrears", x.flockAt(5, 1, 0, 3), 0);
        Due.is("ahead of its year", x.flockAt(5, 0, 5, 0), -1);
        Due.is("what -1", x.flockAt(5, 1, 0, -1), -1);
        Due.is("what 4", x.flockAt(5, 1, 0, 4), -1);
        Due.is("f -1", x.flockAt(-1, 1, 0, 0), -1);
        Due.is("f 6", x.flockAt(6, 1, 0, 0), -1);
        Due.is("year -1", x.flockAt(0, -1, 0, 0), -1);
        Due.is("year 100", x.flockAt(0, 100, 0, 0), -1);
        Due.is("k -1", x.flockAt(0, 1, -1, 0), -1);
        Due.is("k 100", x.flockAt(0, 1, 100, 0), -1);
        Due.is("k 99", x.flockAt(0, 1, 99, 0), 9999);
    }

    private static void wrongFound() {
        ClayHouse x = new ClayHouse();
        x.year();
        x.flock(10, 10, 10);
        x.year();
        x.year();
        Due.is("its own year", x.found(0, 1, 1, 1, 1), false);
        Due.is("ahead of it", x.found(0, 0, 1, 1, 1), false);
        Due.is("later than now", x.found(0, 4, 1, 1, 1), false);
        Due.is("f 1", x.found(1, 2, 1, 1, 1), false);
        Due.is("f -1", x.found(-1, 2, 1, 1, 1), false);
        Due.is("ewes", x.found(0, 2, -1, 1, 1), false);
        Due.is("ewes", x.found(0, 2, 10000, 1, 1), false);
        Due.is("wethers", x.found(0, 2, 1, -1, 1), false);
        Due.is("wethers", x.found(0, 2, 1, 10000, 1), false);
        Due.is("lambs", x.found(0, 2, 1, 1, -1), false);
        Due.is("lambs", x.found(0, 2, 1, 1, 10000), false);
        Due.is("nothing was done", x.flockAt(0, 2, 3, 0), 10 + 5 - 1);
        Due.is("the year behind its own", x.found(0, 2, 0, 0, 0), true);
        Due.is("nothing there", x.flockAt(0, 2, 3, 0) + x.flockAt(0, 2, 3, 1) + x.flockAt(0, 2, 3, 2), 0);
        Due.is("now", x.found(0, 3, 9999, 9999, 9999), true);
        Due.is("there", x.flockAt(0, 3, 3, 2), 9999);
    }

    private static void hundredFound() {
        ClayHouse x = new ClayHouse();
        x.flock(1, 1, 1);
        x.flock(1, 1, 1);
        x.year();
        for (int i = 0; i < 100; i++) {
            Due.is("found", x.found(i % 2, 1, i, i, i), true);
        }
        Due.is("101st", x.found(0, 1, 7, 7, 7), false);
        Due.is("the last of 0", x.flockAt(0, 1, 1, 0), 98);
        Due.is("the last of 1", x.flockAt(1, 1, 1, 1), 99);
    }

    private static void byTheBook() {
        ClayHouse x = new ClayHouse();
        x.flock(100, 50, 41);
        Due.is("half upwards", x.flockAt(0, 1, 0, 0), 100 + 21 - 15);
        Due.is("the other half", x.flockAt(0, 1, 0, 1), 50 + 20 - 7);
        Due.is("of what they were", x.flockAt(0, 1, 0, 2), 66);
        Due.is("next ewes", x.flockAt(0, 2, 0, 0), 106 + 33 - 15);
        Due.is("next wethers", x.flockAt(0, 2, 0, 1), 63 + 33 - 9);
        Due.is("next lambs", x.flockAt(0, 2, 0, 2), 69);
    }

    private static void mostBooked() {
        ClayHouse x = new ClayHouse();
        x.flock(9999, 9999, 9999);
        x.book(200, 0);
        Due.is("ewes", x.flockAt(0, 99, 0, 0), 9999999);
        Due.is("wethers", x.flockAt(0, 99, 0, 1), 9999999);
        Due.is("lambs", x.flockAt(0, 99, 0, 2), 9999999);
        for (int i = 0; i < 99; i++) {
            x.year();
        }
        Due.is("found", x.found(0, 99, 0, 0, 0), true);
        Due.is("the most arrears", x.flockAt(0, 99, 99, 3), 9999999 * 14);
        // At most, then more by half of what is at most, then less by LOSS of what it was.
        x.book(200, 10);
        Due.is("ewes", x.flockAt(0, 98, 0, 0), 9999999);
    }

    private static void foundAsKnown() {
        ClayHouse x = new ClayHouse();
        x.flock(100, 50, 40);
        x.year();
        x.year();
        Due.is("told in 2 for 1", x.found(0, 1, 90, 60, 50), true);
        Due.is("known at 1: by the book", x.flockAt(0, 1, 1, 0), 100 + 20 - 15);
        Due.is("known at 2: found", x.flockAt(0, 1, 2, 0), 90);
        Due.is("next from what was found", x.flockAt(0, 2, 2, 0), 90 + 25 - 13);
        Due.is("next by the book", x.flockAt(0, 2, 1, 0), 105 + 33 - 15);
        Due.is("the last one told", x.found(0, 1, 80, 60, 50), true);
        Due.is("known at 2", x.flockAt(0, 1, 2, 0), 80);
        x.year();
        Due.is("told in 3 for 1", x.found(0, 1, 70, 60, 50), true);
        Due.is("told in 3 for 2", x.found(0, 2, 60, 60, 50), true);
        Due.is("known at 2", x.flockAt(0, 1, 2, 0), 80);
        Due.is("known at 3", x.flockAt(0, 1, 3, 0), 70);
        Due.is("known at 99", x.flockAt(0, 1, 99, 0), 70);
        Due.is("2 known at 2", x.flockAt(0, 2, 2, 0), 80 + 25 - 12);
        Due.is("2 known at 3", x.flockAt(0, 2, 3, 0), 60);
        Due.is("another flock", x.flock(1, 2, 3), 1);
        Due.is("its year", x.flockAt(1, 3, 3, 0), 1);
        Due.is("ahead", x.flockAt(1, 2, 3, 0), -1);
    }

    private static void arrears() {
        ClayHouse x = new ClayHouse();
        x.flock(100, 100, 100);
        x.year();
        // By the book: 135 135 66.
        Due.is("no arrears", x.flockAt(0, 1, 1, 3), 0);
        Due.is("found", x.found(0, 1, 130, 125, 46), true);
        Due.is("arrears", x.flockAt(0, 1, 1, 3), 5 * 6 + 10 * 5 + 20 * 3);
        Due.is("not known at 0", x.flockAt(0, 1, 0, 3), 0);
        Due.is("found more", x.found(0, 1, 140, 125, 70), true);
        Due.is("0 at least of each", x.flockAt(0, 1, 1, 3), 10 * 5);
        x.year();
        Due.is("of that year alone", x.flockAt(0, 2, 2, 3), 0);
        Due.is("found", x.found(0, 2, 140 + 35 - 21, 125 + 35 - 18, 92), true);
        Due.is("by the book from what was found", x.flockAt(0, 2, 2, 3), 0);
        Due.is("found", x.found(0, 2, 140 + 35 - 22, 125 + 35 - 19, 91), true);
        Due.is("one of each", x.flockAt(0, 2, 2, 3), 14);
    }

    private static void againstAnotherBook() {
        Due.Dice dice = new Due.Dice(5);
        for (int run = 0; run < 30; run++) {
            ClayHouse x = new ClayHouse();
            int rate = dice.from(0, 200);
            int loss = dice.from(0, 100);
            x.book(rate, loss);
            int came = dice.below(4);
            for (int i = 0; i < came; i++) {
                x.year();
            }
            int[] start = {dice.below(10000), dice.below(10000), dice.below(10000)};
            x.flock(start[0], start[1], start[2]);
            int[][] finds = new int[20][];
            int count = 0;
            int now = came;
            while (count < finds.length) {
                if (dice.below(2) == 0) {
                    now = x.year();
                } else if (now > came) {
                    finds[count] = new int[] {dice.from(came + 1, now), now, dice.below(10000), dice.below(10000),
                        dice.below(10000)};
                    int[] find = finds[count];
                    Due.is("found", x.found(0, find[0], find[2], find[3], find[4]), true);
                    count++;
                }
            }
            for (int ask = 0; ask < 15; ask++) {
                int year = dice.from(came, now + 5);
                int k = dice.from(0, now + 2);
                long[] due = at(year, k, came, start, finds, rate, loss);
                for (int what = 0; what < 4; what++) {
                    Due.is("flockAt(0, " + year + ", " + k + ", " + what + ")", x.flockAt(0, year, k, what), due[what]);
                }
            }
        }
    }

    private static long[] at(int year, int k, int came, int[] start, int[][] finds, int rate, int loss) {
        if (year == came) {
            return new long[] {start[0], start[1], start[2], 0};
        }
        long[] was = at(year - 1, k, came, start, finds, rate, loss);
        long ewes = was[0] + (was[2] - was[2] / 2) - Math.floorDiv(was[0] * loss, 100L);
        long wethers = was[1] + was[2] / 2 - Math.floorDiv(was[1] * loss, 100L);
        long lambs = Math.floorDiv(was[0] * rate, 100L);
        long[] is = {Math.min(9999999, ewes), Math.min(9999999, wethers), Math.min(9999999, lambs), 0};
        int[] last = null;
        for (int[] find : finds) {
            last = find[0] == year && find[1] <= k ? find : last;
        }
        if (last != null) {
            long arrears = Math.max(0, is[0] - last[2]) * 6 + Math.max(0, is[1] - last[3]) * 5
                    + Math.max(0, is[2] - last[4]) * 3;
            return new long[] {last[2], last[3], last[4], arrears};
        }
        return is;
    }
}
