/** Promises 13 to 16: weight, mark, tell, ball. */
public final class BallTest {
    public static void main(String[] args) {
        wrongOnes();
        nothingTold();
        rattled();
        weighed();
        opened();
        lies();
        askedInAnyOrder();
        againstAllCounts();
        Due.done();
    }

    private static void wrongOnes() {
        ClayHouse x = new ClayHouse();
        Due.is("weight kind -1", x.weight(-1, 1), false);
        Due.is("weight kind 5", x.weight(5, 1), false);
        Due.is("weight 0", x.weight(0, 0), false);
        Due.is("weight 21", x.weight(0, 21), false);
        Due.is("weight 20", x.weight(4, 20), true);
        Due.is("weight 1", x.weight(4, 1), true);
        Due.is("mark ball -1", x.mark(-1, 0, 1), false);
        Due.is("mark ball 8", x.mark(8, 0, 1), false);
        Due.is("mark kind -1", x.mark(0, -1, 1), false);
        Due.is("mark kind 5", x.mark(0, 5, 1), false);
        Due.is("mark -1", x.mark(0, 0, -1), false);
        Due.is("mark 10", x.mark(0, 0, 10), false);
        Due.is("mark 9", x.mark(7, 4, 9), true);
        Due.is("mark 0", x.mark(7, 4, 0), true);
        Due.is("tell ball -1", x.tell(-1, 0, 1), false);
        Due.is("tell ball 8", x.tell(8, 0, 1), false);
        Due.is("tell what -1", x.tell(0, -1, 1), false);
        Due.is("tell what 2", x.tell(0, 2, 1), false);
        Due.is("tell what 9", x.tell(0, 9, 1), false);
        Due.is("tell what 15", x.tell(0, 15, 1), false);
        Due.is("rattled 46", x.tell(0, 0, 46), false);
        Due.is("rattled -2", x.tell(0, 0, -2), false);
        Due.is("weighed 901", x.tell(0, 1, 901), false);
        Due.is("weighed -2", x.tell(0, 1, -2), false);
        Due.is("inside 10", x.tell(0, 10, 10), false);
        Due.is("inside -1", x.tell(0, 14, -1), false);
        Due.is("nothing was done", x.ball(0, 0), 100000);
        Due.is("none is opened", x.look(9), 0);
        Due.is("ball -1", x.ball(-1, 0), -1);
        Due.is("ball 8", x.ball(8, 0), -1);
        int[] others = {-1, 2, 9, 15, 19, 25, 30, Integer.MAX_VALUE, Integer.MIN_VALUE};
        for (int what : others) {
            Due.is("ball what " + what, x.ball(0, what), -1);
        }
    }

    private static void nothingTold() {
        ClayHouse x = new ClayHouse();
        Due.is("mark", x.mark(3, 2, 5), true);
        Due.is("ways", x.ball(3, 0), 100000);
        Due.is("no lies", x.ball(3, 1), 0);
        for (int kind = 0; kind < 5; kind++) {
            Due.is("least", x.ball(3, 10 + kind), 0);
            Due.is("greatest", x.ball(3, 20 + kind), 9);
        }
    }

    private static void rattled() {
        ClayHouse x = new ClayHouse();
        Due.is("rattled 45", x.tell(0, 0, 45), true);
        Due.is("one way", x.ball(0, 0), 1);
        Due.is("all nine", x.ball(0, 14), 9);
        Due.is("45 lies", x.ball(0, 1), 45);
        Due.is("rattled 44", x.tell(0, 0, 44), true);
        Due.is("five ways", x.ball(0, 0), 5);
        Due.is("least", x.ball(0, 10), 8);
        Due.is("greatest", x.ball(0, 20), 9);
        Due.is("rattled 1", x.tell(0, 0, 1), true);
        Due.is("five ways", x.ball(0, 0), 5);
        Due.is("rattled none", x.tell(0, 0, -1), true);
        Due.is("all ways", x.ball(0, 0), 100000);
        Due.is("rattled 0", x.tell(0, 0, 0), true);
        Due.is("one way", x.ball(0, 0), 1);
        Due.is("another ball", x.ball(1, 0), 100000);
    }

    private static void weighed() {
        ClayHouse x = new ClayHouse();
        Due.is("weighed 1", x.tell(0, 1, 1), true);
        Due.is("all weigh 1 at first", x.ball(0, 0), 5);
        for (int kind = 0; kind < 5; kind++) {
            Due.is("at most one", x.ball(0, 20 + kind), 1);
        }
        for (int kind = 0; kind < 5; kind++) {
            Due.is("weight", x.weight(kind, 20), true);
        }
        Due.is("weighed 900", x.tell(0, 1, 900), true);
        Due.is("one way", x.ball(0, 0), 1);
        Due.is("weighed 899", x.tell(0, 1, 899), true);
        Due.is("no way", x.ball(0, 0), 0);
        Due.is("no lies", x.ball(0, 1), -1);
        Due.is("no least", x.ball(0, 12), -1);
        Due.is("no greatest", x.ball(0, 22), -1);
        Due.is("weights count for all balls", x.weight(4, 19), true);
        Due.is("weighed 891", x.tell(0, 1, 891), true);
        Due.is("one way", x.ball(0, 0), 1);
        Due.is("weighed none", x.tell(0, 1, -1), true);
        Due.is("all ways", x.ball(0, 0), 100000);
        Due.is("weighed none again", x.tell(0, 1, -1), true);
        Due.is("rattled none, as it was", x.tell(0, 0, -1), true);
        Due.is("all ways", x.ball(0, 0), 100000);
        // Both agree: two tokens that weigh 39 together.
        Due.is("rattled", x.tell(0, 0, 2), true);
        Due.is("weighed", x.tell(0, 1, 39), true);
        Due.is("four ways", x.ball(0, 0), 4);
        Due.is("one of the last kind", x.ball(0, 14), 1);
        Due.is("one of the last kind", x.ball(0, 24), 1);
    }

    private static void opened() {
        ClayHouse x = new ClayHouse();
        Due.is("rattled", x.tell(2, 0, 1), true);
        Due.is("opened", x.tell(2, 13, 4), true);
        Due.is("one is opened", x.look(9), 1);
        Due.is("that alone", x.ball(2, 0), 1);
        Due.is("others are 0", x.ball(2, 20), 0);
        Due.is("four", x.ball(2, 13), 4);
        Due.is("four", x.ball(2, 23), 4);
        Due.is("told again", x.tell(2, 10, 9), true);
        Due.is("the first stays", x.ball(2, 13), 4);
        Due.is("nine", x.ball(2, 10), 9);
        Due.is("13 lies", x.ball(2, 1), 13);
        Due.is("mark", x.mark(2, 4, 3), true);
        Due.is("16 lies", x.ball(2, 1), 16);
        Due.is("still opened", x.tell(2, 0, 45), true);
        Due.is("that alone", x.ball(2, 0), 1);
        Due.is("opened by 0", x.tell(3, 14, 0), true);
        Due.is("one way", x.ball(3, 0), 1);
        Due.is("nothing in it", x.ball(3, 24), 0);
        Due.is("two are opened", x.look(9), 2);
    }

    private static void lies() {
        ClayHouse x = new ClayHouse();
        for (int kind = 0; kind < 5; kind++) {
            Due.is("mark", x.mark(0, kind, kind), true);
        }
        Due.is("rattled as marked", x.tell(0, 0, 10), true);
        Due.is("no lies", x.ball(0, 1), 0);
        Due.is("rattled 7", x.tell(0, 0, 7), true);
        Due.is("three taken out", x.ball(0, 1), 3);
        Due.is("rattled 14", x.tell(0, 0, 14), true);
        Due.is("four put in", x.ball(0, 1), 4);
        Due.is("a heavier one", x.weight(0, 5), true);
        Due.is("rattled 10", x.tell(0, 0, 10), true);
        Due.is("weighed 14", x.tell(0, 1, 14), true);
        Due.is("one for another", x.ball(0, 1), 2);
    }

    // What was asked of one BALL, or of what is in an OPENED one, is nothing to another.
    private static void askedInAnyOrder() {
        ClayHouse x = new ClayHouse();
        Due.is("opened", x.tell(0, 14, 7), true);
        Due.is("heavier", x.weight(4, 6), true);
        Due.is("rattled", x.tell(1, 0, 3), true);
        Due.is("weighed", x.tell(2, 1, 2), true);
        Due.is("greatest of 0", x.ball(0, 24), 7);
        Due.is("greatest of 1", x.ball(1, 24), 3);
        Due.is("greatest of 0", x.ball(0, 20), 0);
        Due.is("greatest of 2", x.ball(2, 20), 2);
        Due.is("least of 0", x.ball(0, 14), 7);
        Due.is("least of 1", x.ball(1, 14), 0);
        Due.is("lies of 0", x.ball(0, 1), 7);
        Due.is("ways of 2", x.ball(2, 0), 10);
        Due.is("lies of 2", x.ball(2, 1), 2);
        Due.is("ways of 0", x.ball(0, 0), 1);
        Due.is("ways of 1", x.ball(1, 0), 35);
    }

    private static void againstAllCounts() {
        Due.Dice dice = new Due.Dice(3);
        for (int run = 0; run < 40; run++) {
            ClayHouse x = new ClayHouse();
            int ball = dice.below(8);
            int[] weight = new int[5];
            int[] mark = new int[5];
            for (int kind = 0; kind < 5; kind++) {
                weight[kind] = dice.from(1, run % 2 == 0 ? 4 : 20);
                mark[kind] = dice.from(0, 9);
                Due.is("weight", x.weight(kind, weight[kind]), true);
                Due.is("mark", x.mark(ball, kind, mark[kind]), true);
            }
            int rattled = dice.below(3) == 0 ? -1 : dice.from(0, 45);
            int weighed = dice.below(3) == 0 ? -1 : dice.from(0, run % 2 == 0 ? 120 : 600);
            Due.is("rattled", x.tell(ball, 0, rattled), true);
            Due.is("weighed", x.tell(ball, 1, weighed), true);
            compare(x, ball, weight, mark, rattled, weighed);
        }
    }

    private static void compare(ClayHouse x, int ball, int[] weight, int[] mark, int rattled, int weighed) {
        int ways = 0;
        int lies = Integer.MAX_VALUE;
        int[] least = {99, 99, 99, 99, 99};
        int[] greatest = new int[5];
        for (int all = 0; all < 100000; all++) {
            int[] counts = {all / 10000, all / 1000 % 10, all / 100 % 10, all / 10 % 10, all % 10};
            int tokens = 0;
            int weighs = 0;
            int lied = 0;
            for (int kind = 0; kind < 5; kind++) {
                tokens += counts[kind];
                weighs += counts[kind] * weight[kind];
                lied += Math.abs(counts[kind] - mark[kind]);
            }
            if ((rattled == -1 || rattled == tokens) && (weighed == -1 || weighed == weighs)) {
                ways++;
                lies = Math.min(lies, lied);
                for (int kind = 0; kind < 5; kind++) {
                    least[kind] = Math.min(least[kind], counts[kind]);
                    greatest[kind] = Math.max(greatest[kind], counts[kind]);
                }
            }
        }
        String told = " rattled " + rattled + " weighed " + weighed;
        Due.is("ways" + told, x.ball(ball, 0), ways);
        Due.is("lies" + told, x.ball(ball, 1), ways == 0 ? -1 : lies);
        for (int kind = 0; kind < 5; kind++) {
            Due.is("least" + told, x.ball(ball, 10 + kind), ways == 0 ? -1 : least[kind]);
            Due.is("greatest" + told, x.ball(ball, 20 + kind), ways == 0 ? -1 : greatest[kind]);
        }
    }
}
