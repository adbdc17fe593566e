/** Runs of 512 calls with any arguments: none throws, and the same calls give the same answers. */
public final class AnyCallsTest {
    private static final String[] WORDS = {"in ", "out ", "sum ", "good ", "lost", "give ", "when ", " or ", " and ",
        " not ", "sort", "age", "days", "kids", "month", "a ", "b ", "c ", "d ", "e ", "f ", ";", "?", "+", "-", "*",
        "/", "(", ")", "<", "=", ">", "0", "1", "2", "5", "7", "9", "99", "1234", "12345", "\n", "zz", "\u00ff", "#",
        "in good 0 ?a;", "sum good 0 lost;", "give age*days good 1;", "give 2 good 2 when not (kids>1 or month=3);"};

    public static void main(String[] args) {
        for (int run = 0; run < 1500; run++) {
            long first = answers(run);
            if (run % 50 == 0) {
                Due.is("the same calls again, run " + run, answers(run), first);
            }
        }
        wordsToTheLimit();
        Due.done();
    }

    private static long answers(int seed) {
        Due.Dice dice = new Due.Dice(seed);
        ClayHouse x = new ClayHouse();
        int reach = seed % 4;
        long all = 0;
        for (int call = 0; call < 512; call++) {
            all = all * 31 + one(x, dice, reach);
        }
        return all;
    }

    private static int some(Due.Dice dice, int reach) {
        switch (dice.below(reach == 0 ? 3 : reach == 1 ? 6 : 12)) {
            case 9:
                return dice.from(-30, 1000);
            case 10:
                return dice.below(2) == 0 ? Integer.MAX_VALUE - dice.below(3) : Integer.MIN_VALUE + dice.below(3);
            case 11:
                return dice.from(0, 12000000);
            case 5:
                return dice.from(-2, 40);
            default:
                return dice.from(0, 9);
        }
    }

    private static long one(ClayHouse x, Due.Dice dice, int reach) {
        int a = some(dice, reach);
        int b = some(dice, reach);
        int c = some(dice, reach);
        int d = some(dice, reach);
        int e = some(dice, reach);
        switch (dice.below(44)) {
            case 0: return x.step(a, b, c) ? 1 : 0;
            case 1: return x.good(a, b) ? 1 : 0;
            case 2: return x.written(a, b, c);
            case 3: return x.year();
            case 4: return x.feed(a, b, c, d, e);
            case 5: return x.end(a) ? 1 : 0;
            case 6: return x.tablet(a);
            case 7: return x.rules();
            case 8: return x.fault(a);
            case 9: return x.line(a, b, c);
            case 10: return x.stock(a, b, c);
            case 11: return x.weight(a, b) ? 1 : 0;
            case 12: return x.mark(a, b, c) ? 1 : 0;
            case 13: return x.tell(a, b, c) ? 1 : 0;
            case 14: return x.ball(a, b + dice.below(3) * 10);
            case 15: return x.seal();
            case 16: return x.over(a, b) ? 1 : 0;
            case 17: return x.order(a + dice.below(3) * 10);
            case 18: return x.ahead(a, b);
            case 19: return x.fragment(a);
            case 20: return x.edge(a, b % 2 == 0, c, d) ? 1 : 0;
            case 21: return x.row(a + dice.below(256), b + dice.below(2) * 10);
            case 22: return x.person(a, b, c - 1);
            case 23: return x.works(a, b) ? 1 : 0;
            case 24: return x.store(a, b);
            case 25: return x.month(a);
            case 26: return x.ration(a, b, c);
            case 27: return x.book(a, b) ? 1 : 0;
            case 28: return x.flock(a, b, c);
            case 29: return x.found(a, b, c, d, e) ? 1 : 0;
            case 30: return x.flockAt(a, b, c, d);
            case 31: return x.interest(a, b) ? 1 : 0;
            case 32: return x.loan(a, b, c);
            case 33: return x.pay(a, b, c) ? 1 : 0;
            case 34: return x.edict(a) ? 1 : 0;
            case 35: return x.owed(a, b, c);
            case 36: return x.field(a, b, c, d, e, dice.below(3));
            case 37: return x.look(a + dice.below(2) * 10);
            case 38: return words(x, dice, 1 + dice.below(8));
            default: return words(x, dice, 1 + dice.below(3)) + (dice.below(3) == 0 ? x.tablet(dice.below(12)) : x.rules());
        }
    }

    private static int words(ClayHouse x, Due.Dice dice, int count) {
        int had = 0;
        for (int i = 0; i < count; i++) {
            StringBuilder text = new StringBuilder(WORDS[dice.below(WORDS.length)]);
            while (text.length() < 20) {
                text.append(dice.below(4) == 0 ? "" : WORDS[dice.below(WORDS.length)]);
                text.append(dice.below(3) == 0 ? " " : "");
            }
            had = x.feed(four(text, 0), four(text, 4), four(text, 8), four(text, 12), four(text, 16));
        }
        return had;
    }

    private static int four(CharSequence text, int from) {
        return text.charAt(from) << 24 | text.charAt(from + 1) << 16 | text.charAt(from + 2) << 8 | text.charAt(from + 3);
    }

    // As many TOKENS as a TAPE can hold, in every part that could grow.
    private static void wordsToTheLimit() {
        ClayHouse x = new ClayHouse();
        x.person(0, 3, -1);
        Due.tabletFault(x, 0, ";".repeat(800), 1, 0);
        Due.rulesFault(x, "?".repeat(800), 1, 0);
        String sum = "give 1" + "+1".repeat(393) + " good1;";
        Due.rules(x, sum.substring(0, 6) + "+1".repeat(390) + "good 1;", 1);
        Due.is("a long sum", x.ration(0, 1, 0), 391);
        Due.rules(x, "give 1good 1 when 1=1" + " or 1=1".repeat(111) + ";", 1);
        Due.is("many ors", x.ration(0, 1, 0), 1);
        Due.rulesFault(x, "give 1" + "+1".repeat(397), 1, 800);
        Due.rulesFault(x, "give 1good 1 when " + "(".repeat(782), 3, 26);
        Due.rulesFault(x, "give " + "9".repeat(795), 1, 5);
        Due.rulesFault(x, "z".repeat(800), 1, 0);
        Due.tabletFault(x, 0, "in good 0" + " 0a".repeat(263), 2, 14);
    }
}
