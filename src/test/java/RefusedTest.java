import java.util.ArrayList;
import java.util.List;

/**
 * All promises: what a refused call answers, and that it changed nothing. Two houses are built alike, one
 * of them hears the refused call, and then both are asked for all that can be known of them. No house
 * hears more than 512 calls.
 */
public final class RefusedTest {
    private static final int MOST = Integer.MAX_VALUE;
    private static final int LEAST = Integer.MIN_VALUE;
    private static final int NO = 0;
    private static final int NONE = -1;
    private static final String LEFT_ON_TAPE = "in good 6 7 a; ";

    private interface Call {
        long on(ClayHouse x);
    }

    private interface Truth {
        boolean on(ClayHouse x);
    }

    private interface Builder {
        ClayHouse house();
    }

    public static void main(String[] args) {
        numbers();
        tape();
        balls();
        sealingsAndFragments();
        persons();
        flocks();
        loans();
        questions();
        textsAtFault();
        fullByYears();
        fullByNumbers();
        fullByPayments();
        emptyHouse();
        Due.done();
    }

    private static void no(String call, Truth refused) {
        same(call, RefusedTest::someOfAll, x -> refused.on(x) ? 1 : 0, NO);
    }

    private static void none(String call, Call refused) {
        same(call, RefusedTest::someOfAll, refused, NONE);
    }

    private static void same(String call, Builder builder, Call refused, long due) {
        ClayHouse x = builder.house();
        Due.is(call, refused.on(x), due);
        compare(call, x, builder.house(), true);
    }

    private static void compare(String call, ClayHouse one, ClayHouse other, boolean faultToo) {
        List<Long> got = knownOf(one, faultToo);
        List<Long> want = knownOf(other, faultToo);
        for (int i = 0; i < want.size(); i++) {
            Due.is("answer " + i + " behind the refused " + call, got.get(i), want.get(i));
        }
    }

    /** A house with some of all, and a text that waits on the TAPE. */
    private static ClayHouse someOfAll() {
        ClayHouse x = new ClayHouse();
        x.step(1, 0, 5);
        x.step(2, 3, 0);
        x.step(2, 2, 0);
        x.step(2, 1, 0);
        x.step(3, 4, 27);
        x.good(3, 1);
        Due.tablet(x, 0, "in good 0 5b;out good 0 ?a;in good 3 1b;", 3);
        x.year();
        Due.tablet(x, 1, "in good 0 lost;sum good 0 2c;", 2);
        someBallsAndSealings(x);
        somePersons(x);
        x.flock(100, 50, 40);
        x.loan(1, 0, 1000);
        x.year();
        x.loan(2, 4, 500);
        x.flock(20, 10, 4);
        x.found(0, 2, 90, 60, 30);
        x.found(0, 2, 80, 70, 60);
        x.book(70, 10);
        x.pay(0, 1, 100);
        x.pay(0, 2, 50);
        x.interest(4, 20);
        x.edict(4);
        Due.put(x, LEFT_ON_TAPE);
        return x;
    }

    private static void someBallsAndSealings(ClayHouse x) {
        x.weight(1, 3);
        x.mark(0, 0, 4);
        x.mark(0, 1, 2);
        x.tell(0, 0, 5);
        x.tell(0, 1, 9);
        x.tell(1, 12, 6);
        for (int p = 0; p < 4; p++) {
            x.seal();
        }
        x.over(2, 1);
        x.over(1, 0);
        for (int f = 0; f < 3; f++) {
            x.fragment(f);
            x.edge(f, true, f, 3 + f);
            x.edge(f, false, f + 1, -4 - f);
        }
    }

    private static void somePersons(ClayHouse x) {
        x.person(3, 40, -1);
        x.person(2, 18, 0);
        x.person(1, 6, 0);
        Due.rules(x, "give age+days good 1;give kids*2+sort good 2 when month<6;", 2);
        x.store(1, 50);
        x.store(2, 9000000);
        x.month(3);
        x.works(0, 12);
        x.works(2, 3);
    }

    /** All that can be asked; it empties the TAPE into TABLET 11 at the end. */
    private static List<Long> knownOf(ClayHouse x, boolean faultToo) {
        List<Long> all = new ArrayList<>();
        for (int what = 0; what < 18; what++) {
            all.add(x.look(what));
        }
        for (int what = 0; what < 2 && faultToo; what++) {
            all.add((long) x.fault(what));
        }
        numbersOf(x, all);
        thingsOf(x, all);
        for (int p = 0; p < 4; p++) {
            for (int g = 1; g < 3; g++) {
                all.add((long) x.ration(p, g, 5));
            }
        }
        for (int f = 0; f < 2; f++) {
            for (int what = 0; what < 4; what++) {
                all.add((long) x.flockAt(f, 2, 1, what));
                all.add((long) x.flockAt(f, 2, 99, what));
                all.add((long) x.flockAt(f, 99, 99, what));
            }
        }
        for (int loan = 0; loan < 3; loan++) {
            for (int year = 1; year < 5; year++) {
                all.add(x.owed(loan, year, 1));
                all.add(x.owed(loan, year, 99));
            }
        }
        tapeOf(x, all);
        return all;
    }

    private static void numbersOf(ClayHouse x, List<Long> all) {
        for (int system = 0; system < 4; system++) {
            for (int i = 0; i < 6; i++) {
                all.add((long) x.written(system, 9876543, i));
            }
        }
        for (int k = 0; k < 2; k++) {
            for (int i = 0; i < 3; i++) {
                for (int what = 0; what < 6; what++) {
                    all.add((long) x.line(k, i, what));
                }
            }
        }
        for (int g = 0; g < 4; g++) {
            all.add(x.stock(g, 0, 0));
            all.add(x.stock(g, 99, 1));
        }
    }

    private static void thingsOf(ClayHouse x, List<Long> all) {
        int[] ballWhats = {0, 1, 10, 11, 12, 20, 21, 22};
        for (int ball = 0; ball < 3; ball++) {
            for (int what : ballWhats) {
                all.add((long) x.ball(ball, what));
            }
        }
        int[] orderWhats = {0, 10, 11, 12, 13, 20, 21};
        for (int what : orderWhats) {
            all.add((long) x.order(what));
        }
        for (int p = 1; p < 5; p++) {
            all.add((long) x.ahead(0, p));
        }
        int[] rowWhats = {0, 1, 10, 11, 12};
        for (int what : rowWhats) {
            all.add((long) x.row(7, what));
        }
        all.add((long) x.row(3, 0));
        all.add((long) x.row(6, 0));
    }

    private static void tapeOf(ClayHouse x, List<Long> all) {
        all.add(x.end(LEFT_ON_TAPE.length()) ? 1L : 0L);
        all.add(x.end(LEFT_ON_TAPE.length() + 1) ? 1L : 0L);
        all.add((long) x.tablet(11));
        for (int what = 0; what < 6; what++) {
            all.add((long) x.line(11, 0, what));
        }
        all.add((long) x.fault(0));
        all.add((long) x.fault(1));
        // The SYSTEM of a GOOD shows in what is read by it from now on.
        for (int g = 0; g < 4; g++) {
            Due.put(x, "in good " + g + " 1b;");
            all.add((long) x.tablet(11));
            all.add((long) x.line(11, 0, 2));
        }
    }

    private static void numbers() {
        int[][] steps = {{-1, 0, 2}, {4, 0, 2}, {LEAST, 0, 2}, {MOST, 0, 2}, {0, -1, 2}, {0, 5, 2}, {0, MOST, 2},
            {0, LEAST, 2}, {0, 0, 1}, {0, 0, 61}, {0, 0, -1}, {0, 0, LEAST}, {0, 0, MOST}, {0, 4, 28}, {0, 4, 1},
            {0, 4, 61}, {0, 2, 0}, {0, 4, 0}, {0, -1, 0}, {-1, 3, 0}, {4, 3, 0}, {2, 0, 0}, {2, -1, 0}, {2, 1, 0},
            {2, 2, 5}, {3, 5, 2}, {3, 0, 11}, {3, 3, 7}, {3, 4, 28}, {3, 3, 0}, {3, 5, 0}};
        for (int[] s : steps) {
            no("step(" + s[0] + ", " + s[1] + ", " + s[2] + ")", x -> x.step(s[0], s[1], s[2]));
        }
        int[][] goods = {{-1, 0}, {8, 0}, {LEAST, 0}, {MOST, 0}, {0, -1}, {0, 4}, {0, LEAST}, {0, MOST}, {3, 4}};
        for (int[] s : goods) {
            no("good(" + s[0] + ", " + s[1] + ")", x -> x.good(s[0], s[1]));
        }
    }

    private static void tape() {
        for (int n : new int[] {-1, LEFT_ON_TAPE.length() + 1, 800, 801, LEAST, MOST}) {
            no("end(" + n + ")", x -> x.end(n));
        }
        Due.is("all of it", someOfAll().end(LEFT_ON_TAPE.length()), true);
    }

    private static void balls() {
        int[][] weights = {{-1, 2}, {5, 2}, {0, 0}, {0, 21}, {1, -1}, {1, LEAST}, {1, MOST}, {MOST, 2}, {LEAST, 2}};
        for (int[] s : weights) {
            no("weight(" + s[0] + ", " + s[1] + ")", x -> x.weight(s[0], s[1]));
        }
        int[][] marks = {{-1, 0, 1}, {8, 0, 1}, {0, -1, 1}, {0, 5, 1}, {0, 0, -1}, {0, 0, 10}, {MOST, 0, 1},
            {LEAST, 0, 1}, {0, MOST, 1}, {0, LEAST, 1}, {0, 0, MOST}, {0, 0, LEAST}};
        for (int[] s : marks) {
            no("mark(" + s[0] + ", " + s[1] + ", " + s[2] + ")", x -> x.mark(s[0], s[1], s[2]));
        }
        int[][] tells = {{-1, 0, 1}, {8, 0, 1}, {0, -1, 1}, {0, 2, 1}, {0, 9, 1}, {0, 15, 1}, {0, 0, 46}, {0, 0, -2},
            {0, 1, 901}, {0, 1, -2}, {0, 10, -1}, {0, 10, 10}, {0, 14, -1}, {0, 14, 10}, {1, 12, 10}, {1, 12, -1},
            {2, 10, 10}, {2, 14, -1}, {0, MOST, 1}, {0, LEAST, 1}, {0, 0, MOST}, {0, 1, LEAST}, {MOST, 10, 1},
            {LEAST, 10, 1}, {-1, 10, 1}, {8, 14, 1}, {8, 1, -1}, {0, 20, 1}};
        for (int[] s : tells) {
            no("tell(" + s[0] + ", " + s[1] + ", " + s[2] + ")", x -> x.tell(s[0], s[1], s[2]));
        }
    }

    private static void sealingsAndFragments() {
        int[][] overs = {{-1, 0}, {0, -1}, {4, 0}, {0, 4}, {0, 0}, {3, 3}, {2, 1}, {1, 0}, {MOST, 0}, {0, MOST},
            {LEAST, 0}, {0, LEAST}, {0, 32}, {32, 0}, {-1, -1}, {4, 4}};
        for (int[] s : overs) {
            no("over(" + s[0] + ", " + s[1] + ")", x -> x.over(s[0], s[1]));
        }
        for (int hand : new int[] {-1, 4, MOST, LEAST}) {
            none("fragment(" + hand + ")", x -> x.fragment(hand));
        }
        int[][] edges = {{-1, 0, 1}, {3, 0, 1}, {0, -1, 1}, {0, 5, 1}, {0, 0, 10}, {0, 0, -10}, {MOST, 0, 1},
            {LEAST, 0, 1}, {0, MOST, 1}, {0, LEAST, 1}, {0, 0, MOST}, {0, 0, LEAST}, {2, 5, 1}, {1, -1, 1}};
        for (int[] s : edges) {
            no("edge(" + s[0] + ", true, " + s[1] + ", " + s[2] + ")", x -> x.edge(s[0], true, s[1], s[2]));
            no("edge(" + s[0] + ", false, " + s[1] + ", " + s[2] + ")", x -> x.edge(s[0], false, s[1], s[2]));
        }
    }

    private static void persons() {
        // A MOTHER that could be gets no kid by a PERSON that can't be.
        int[][] persons = {{-1, 0, 0}, {4, 0, 0}, {0, -1, 0}, {0, 100, 0}, {0, 0, -2}, {0, 0, 3}, {0, 0, MOST},
            {0, 0, LEAST}, {MOST, 0, 0}, {LEAST, 0, 0}, {0, MOST, 0}, {0, LEAST, 0}, {4, 100, -1}};
        for (int[] s : persons) {
            none("person(" + s[0] + ", " + s[1] + ", " + s[2] + ")", x -> x.person(s[0], s[1], s[2]));
        }
        int[][] days = {{-1, 1}, {3, 1}, {0, -1}, {0, 31}, {MOST, 1}, {LEAST, 1}, {0, MOST}, {0, LEAST}};
        for (int[] s : days) {
            no("works(" + s[0] + ", " + s[1] + ")", x -> x.works(s[0], s[1]));
        }
        int left = 9999999 - (int) someOfAll().look(12);
        int[][] stores = {{-1, 1}, {8, 1}, {0, -1}, {0, 10000000}, {2, left + 1}, {2, 9999999}, {2, MOST}, {2, LEAST},
            {MOST, 1}, {LEAST, 1}};
        for (int[] s : stores) {
            none("store(" + s[0] + ", " + s[1] + ")", x -> x.store(s[0], s[1]));
        }
        Due.is("just full", someOfAll().store(2, left), 9999999);
        for (int m : new int[] {-1, 12, MOST, LEAST}) {
            none("month(" + m + ")", x -> x.month(m));
        }
    }

    private static void flocks() {
        int[][] books = {{-1, 50}, {201, 50}, {50, -1}, {50, 101}, {MOST, 50}, {LEAST, 50}, {50, MOST}, {50, LEAST}};
        for (int[] s : books) {
            no("book(" + s[0] + ", " + s[1] + ")", x -> x.book(s[0], s[1]));
        }
        int[][] kept = {{-1, 1, 1}, {1, -1, 1}, {1, 1, -1}, {10000, 1, 1}, {1, 10000, 1}, {1, 1, 10000}, {MOST, 1, 1},
            {1, LEAST, 1}, {1, 1, MOST}};
        for (int[] s : kept) {
            none("flock(" + s[0] + ", " + s[1] + ", " + s[2] + ")", x -> x.flock(s[0], s[1], s[2]));
            no("found(0, 2, " + s[0] + ", " + s[1] + ", " + s[2] + ")", x -> x.found(0, 2, s[0], s[1], s[2]));
        }
        // FLOCK 0 came in YEAR 1, FLOCK 1 in YEAR 2, which is NOW.
        int[][] years = {{-1, 2}, {2, 2}, {MOST, 2}, {LEAST, 2}, {0, 3}, {0, 1}, {0, 0}, {0, -1}, {0, MOST}, {0, LEAST},
            {1, 1}, {1, 2}, {1, 3}};
        for (int[] s : years) {
            no("found(" + s[0] + ", " + s[1] + ", ..)", x -> x.found(s[0], s[1], 7, 7, 7));
        }
    }

    private static void loans() {
        int[][] interests = {{-1, 1}, {8, 1}, {4, -1}, {4, 101}, {MOST, 1}, {LEAST, 1}, {4, MOST}, {4, LEAST}};
        for (int[] s : interests) {
            no("interest(" + s[0] + ", " + s[1] + ")", x -> x.interest(s[0], s[1]));
        }
        int[][] loans = {{-1, 0, 1}, {3, 0, 1}, {0, -1, 1}, {0, 8, 1}, {0, 0, 0}, {0, 0, 100000}, {0, 0, -1},
            {MOST, 0, 1}, {LEAST, 0, 1}, {0, MOST, 1}, {0, LEAST, 1}, {0, 0, MOST}, {0, 0, LEAST}};
        for (int[] s : loans) {
            none("loan(" + s[0] + ", " + s[1] + ", " + s[2] + ")", x -> x.loan(s[0], s[1], s[2]));
        }
        // LOAN 0 is of YEAR 1, LOAN 1 of YEAR 2, which is NOW.
        int[][] payments = {{-1, 2, 1}, {2, 2, 1}, {0, 0, 1}, {0, 3, 1}, {0, 2, 0}, {0, 2, 100000}, {0, 2, -1},
            {1, 1, 1}, {1, 3, 1}, {MOST, 2, 1}, {LEAST, 2, 1}, {0, MOST, 1}, {0, LEAST, 1}, {0, 2, MOST}, {0, 2, LEAST}};
        for (int[] s : payments) {
            no("pay(" + s[0] + ", " + s[1] + ", " + s[2] + ")", x -> x.pay(s[0], s[1], s[2]));
        }
        for (int g : new int[] {-1, 8, 4, MOST, LEAST}) {
            no("edict(" + g + ")", x -> x.edict(g));
        }
    }

    /** To be asked for what there is, or is not, changes nothing either. */
    private static void questions() {
        same("ball(2, 0)", RefusedTest::someOfAll, x -> x.ball(2, 0), 100000);
        same("order(0)", RefusedTest::someOfAll, x -> x.order(0), 4);
        same("row(5, 11)", RefusedTest::someOfAll, x -> x.row(5, 11), someOfAll().row(5, 11));
        same("ration(0, 1, 2)", RefusedTest::someOfAll, x -> x.ration(0, 1, 2), 52);
        same("flockAt(1, 50, 0, 0)", RefusedTest::someOfAll, x -> x.flockAt(1, 50, 0, 0), someOfAll().flockAt(1, 50, 0, 0));
        none("written(0, 1, 5)", x -> x.written(0, 1, 5));
        none("line(0, 3, 0)", x -> x.line(0, 3, 0));
        none("ball(8, 0)", x -> x.ball(8, 0));
        none("order(14)", x -> x.order(14));
        none("ahead(1, 1)", x -> x.ahead(1, 1));
        none("row(8, 0)", x -> x.row(8, 0));
        none("row(7, 13)", x -> x.row(7, 13));
        none("ration(3, 0, 0)", x -> x.ration(3, 0, 0));
        none("flockAt(0, 0, 9, 0)", x -> x.flockAt(0, 0, 9, 0));
        none("owed(0, 0, 9)", x -> x.owed(0, 0, 9));
        none("fault(2)", x -> x.fault(2));
        none("look(18)", x -> x.look(18));
        none("field(0, 1, 1, 1, 1, 0)", x -> x.field(0, 1, 1, 1, 1, 0));
        same("stock(8, 0, 0)", RefusedTest::someOfAll, x -> x.stock(8, 0, 0), -99999999999L);
    }

    /** By a FAULT, or without such a TABLET, the TAPE is empty; all else stays. */
    private static void textsAtFault() {
        for (int k : new int[] {-1, 12, MOST, LEAST}) {
            ClayHouse x = someOfAll();
            Due.is("tablet(" + k + ")", x.tablet(k), NONE);
            Due.is("its fault", x.fault(0), 0);
            Due.is("its place", x.fault(1), NONE);
            ClayHouse twin = someOfAll();
            twin.end(0);
            compare("tablet(" + k + ")", x, twin, false);
        }
        String[] texts = {"in good 0 1a;in good 3 2b;sum good 0 4a", "in good 0 ?a;out good 0 lost;in good 8 1a;",
            "out good 3 3b;in good 0 lost;in good 0 lost;"};
        for (String text : texts) {
            for (int k = 0; k < 2; k++) {
                ClayHouse x = someOfAll();
                x.end(0);
                Due.put(x, text);
                Due.is("tablet " + text, x.tablet(k), NONE);
                ClayHouse twin = someOfAll();
                twin.end(0);
                compare("tablet of " + text, x, twin, false);
            }
        }
        String[] rules = {"give 7 good 1;give 8 good 2 when 1=1;give 9 good 3", "give 1 good 1;give 2 good 2 when 1=1/0;",
            "give 3 good 1;give 4 good 8;"};
        for (String text : rules) {
            ClayHouse x = someOfAll();
            x.end(0);
            Due.put(x, text);
            Due.is("rules " + text, x.rules(), NONE);
            ClayHouse twin = someOfAll();
            twin.end(0);
            compare("rules of " + text, x, twin, false);
        }
    }

    private static ClayHouse lastYear() {
        ClayHouse x = new ClayHouse();
        for (int f = 0; f < 6; f++) {
            x.flock(10 + f, 20, 30);
        }
        for (int year = 1; year <= 99; year++) {
            x.year();
        }
        for (int i = 0; i < 100; i++) {
            x.found(i % 6, 1 + i % 99, i, i, i);
        }
        return x;
    }

    private static void fullByYears() {
        same("year() in 99", RefusedTest::lastYear, x -> x.year(), NONE);
        same("a seventh flock", RefusedTest::lastYear, x -> x.flock(1, 1, 1), NONE);
        same("a 101st found", RefusedTest::lastYear, x -> x.found(0, 2, 1, 1, 1) ? 1 : 0, NO);
    }

    private static ClayHouse manyThings() {
        ClayHouse x = new ClayHouse();
        for (int p = 0; p < 32; p++) {
            x.person(p % 4, p, p == 0 ? -1 : 0);
        }
        for (int loan = 0; loan < 40; loan++) {
            x.loan(loan % 32, loan % 8, 1000 + loan);
        }
        for (int p = 0; p < 10; p++) {
            x.seal();
        }
        for (int f = 0; f < 8; f++) {
            x.fragment(f % 4);
        }
        Due.rules(x, "give kids good 1;", 1);
        x.store(1, 9999999);
        Due.put(x, LEFT_ON_TAPE);
        // LEFT_ON_TAPE is as long as a feed less five, so that 39 more leave no place for a 40th.
        for (int i = 1; i < 40; i++) {
            x.feed(0x20202020, 0x20202020, 0x20202020, 0x20202020, 0x20202020);
        }
        return x;
    }

    private static void fullByNumbers() {
        same("a 33rd person", RefusedTest::manyThings, x -> x.person(0, 0, -1), NONE);
        same("a 33rd person with a mother", RefusedTest::manyThings, x -> x.person(0, 0, 0), NONE);
        same("a 41st loan", RefusedTest::manyThings, x -> x.loan(0, 0, 1), NONE);
        same("an eleventh sealing", RefusedTest::manyThings, x -> x.seal(), NONE);
        same("a ninth fragment", RefusedTest::manyThings, x -> x.fragment(0), NONE);
        same("a store that is full", RefusedTest::manyThings, x -> x.store(1, 1), NONE);
        same("end(796)", RefusedTest::manyThings, x -> x.end(796) ? 1 : 0, NO);
        same("a feed beyond 800", RefusedTest::manyThings, x -> x.feed(1, 2, 3, 4, 5), NONE);
        ClayHouse x = manyThings();
        Due.is("a feed beyond 800", x.feed(0x3b3b3b3b, 0, 0, 0, 0), NONE);
        Due.is("all that it had", x.end(795), true);
        Due.is("nothing came", x.end(796), false);
        Due.is("none of it is there", x.tablet(0), 1);
        Due.is("the line", x.line(0, 0, 2), 7);
    }

    private static ClayHouse manyPayments() {
        ClayHouse x = new ClayHouse();
        x.person(0, 30, -1);
        x.loan(0, 0, 90000);
        x.loan(0, 1, 90000);
        x.year();
        for (int i = 0; i < 200; i++) {
            x.pay(i % 2, i % 4 / 2, 1 + i);
        }
        return x;
    }

    private static void fullByPayments() {
        same("a 201st payment", RefusedTest::manyPayments, x -> x.pay(0, 1, 1) ? 1 : 0, NO);
        same("a 201st payment", RefusedTest::manyPayments, x -> x.pay(1, 0, 99999) ? 1 : 0, NO);
    }

    private static void emptyHouse() {
        Call[] nones = {x -> x.line(0, 0, 0), x -> x.order(10), x -> x.order(20), x -> x.order(21), x -> x.ahead(0, 1),
            x -> x.row(1, 0), x -> x.row(3, 0), x -> x.ration(0, 0, 0), x -> x.flockAt(0, 0, 0, 0), x -> x.owed(0, 0, 0),
            x -> x.loan(0, 0, 1), x -> x.person(0, 0, 0), x -> x.fault(1)};
        for (int i = 0; i < nones.length; i++) {
            same("none of an empty house " + i, ClayHouse::new, nones[i], NONE);
        }
        Truth[] nos = {x -> x.over(0, 1), x -> x.over(0, 0), x -> x.edge(0, true, 0, 0), x -> x.works(0, 1),
            x -> x.found(0, 0, 1, 1, 1), x -> x.found(0, 1, 1, 1, 1), x -> x.pay(0, 0, 1), x -> x.end(1)};
        for (int i = 0; i < nos.length; i++) {
            Truth truth = nos[i];
            same("no in an empty house " + i, ClayHouse::new, x -> truth.on(x) ? 1 : 0, NO);
        }
        ClayHouse x = new ClayHouse();
        Due.is("no rules, nobody", x.month(0), 0);
        Due.is("one order of none", x.order(0), 1);
        Due.is("any count", x.ball(7, 0), 100000);
        Due.is("no stock", x.stock(7, 99, 0), 0);
        Due.is("no stock", x.stock(7, 99, 1), 0);
        x.person(0, 50, -1);
        Due.is("no rules", x.ration(0, 0, 0), 0);
        Due.is("no rules", x.month(0), 0);
    }
}
