/** Promises 1 to 7: a new object, step, good, written, year, feed, end. */
public final class NumbersTest {
    public static void main(String[] args) {
        newObject();
        writtenAtFirst();
        steps();
        signsComeAndGo();
        worthLimit();
        goods();
        years();
        tape();
        Due.done();
    }

    private static void newObject() {
        ClayHouse x = new ClayHouse();
        for (int what = 0; what < 18; what++) {
            Due.is("look(" + what + ")", x.look(what), 0);
        }
        Due.is("fault(0)", x.fault(0), 0);
        Due.is("fault(1)", x.fault(1), -1);
        Due.is("fault(2)", x.fault(2), -1);
        Due.is("fault(-1)", x.fault(-1), -1);
        Due.is("NONE", ClayHouse.NONE, -1);
        for (int system = 0; system < 4; system++) {
            Due.is("worth of e", x.written(system, 3600, 4), 1);
            Due.is("worth of d", x.written(system, 3599, 3), 5);
            Due.is("worth of c", x.written(system, 3599, 2), 9);
            Due.is("worth of b", x.written(system, 3599, 1), 5);
            Due.is("worth of a", x.written(system, 3599, 0), 9);
            Due.is("no f", x.written(system, 3599, 5), -1);
            Due.is("no step behind the last one", x.step(system, 4, 0), false);
            Due.is("the last step", x.step(system, 3, 0), true);
        }
    }

    private static void writtenAtFirst() {
        ClayHouse x = new ClayHouse();
        Due.is("0", x.written(0, 0, 0), 0);
        Due.is("0 of e", x.written(0, 0, 4), 0);
        Due.is("9999999 of e", x.written(0, 9999999, 4), 2777);
        Due.is("9999999 of d", x.written(0, 9999999, 3), 4);
        Due.is("9999999 of c", x.written(0, 9999999, 2), 6);
        Due.is("9999999 of b", x.written(0, 9999999, 1), 3);
        Due.is("9999999 of a", x.written(0, 9999999, 0), 9);
        Due.is("too great", x.written(0, 10000000, 0), -1);
        Due.is("too small", x.written(0, -1, 0), -1);
        Due.is("too small for b", x.written(0, -1, 1), -1);
        Due.is("too small for e", x.written(0, -1, 4), -1);
        Due.is("too great for e", x.written(0, 10000000, 4), -1);
        Due.is("sign -1", x.written(0, 1, -1), -1);
        Due.is("system -1", x.written(-1, 1, 0), -1);
        Due.is("system 4", x.written(4, 1, 0), -1);
        Due.is("least int", x.written(0, Integer.MIN_VALUE, 0), -1);
        Due.is("sign far off", x.written(0, 1, Integer.MAX_VALUE), -1);
    }

    private static void steps() {
        ClayHouse x = new ClayHouse();
        Due.is("step 2", x.step(0, 0, 2), true);
        Due.is("b is worth 2 now", x.written(0, 11, 1), 5);
        Due.is("a", x.written(0, 11, 0), 1);
        Due.is("others stay", x.written(1, 11, 1), 1);
        Due.is("step 60", x.step(0, 1, 60), true);
        Due.is("c is worth 120", x.written(0, 240, 2), 2);
        Due.is("step 1", x.step(0, 0, 1), false);
        Due.is("step 61", x.step(0, 0, 61), false);
        Due.is("step -1", x.step(0, 0, -1), false);
        Due.is("i -1", x.step(0, -1, 5), false);
        Due.is("system -1", x.step(-1, 0, 5), false);
        Due.is("system 4", x.step(4, 0, 5), false);
        Due.is("i two behind", x.step(0, 5, 2), false);
        Due.is("i far off", x.step(0, Integer.MAX_VALUE, 2), false);
        Due.is("i least", x.step(0, Integer.MIN_VALUE, 2), false);
        Due.is("nothing was done", x.written(0, 240, 2), 2);
    }

    private static void signsComeAndGo() {
        ClayHouse x = new ClayHouse();
        Due.is("an f", x.step(0, 4, 27), true);
        Due.is("f is worth 97200", x.written(0, 97200, 5), 1);
        Due.is("e below f", x.written(0, 97199, 4), 26);
        Due.is("no g", x.step(0, 5, 2), false);
        Due.is("drop at another i", x.step(0, 3, 0), false);
        Due.is("drop ahead of all", x.step(0, 5, 0), false);
        Due.is("drop f", x.step(0, 4, 0), true);
        Due.is("f is gone", x.written(0, 97200, 5), -1);
        Due.is("e is the greatest again", x.written(0, 97200, 4), 27);
        Due.is("drop e", x.step(0, 3, 0), true);
        Due.is("drop d", x.step(0, 2, 0), true);
        Due.is("drop c", x.step(0, 1, 0), true);
        Due.is("two stay", x.step(0, 0, 0), false);
        Due.is("b is the greatest", x.written(0, 3600, 1), 360);
        Due.is("c is gone", x.written(0, 3600, 2), -1);
        Due.is("two behind the last step", x.step(0, 2, 5), false);
        Due.is("c comes again by another step", x.step(0, 1, 7), true);
        Due.is("c is worth 70", x.written(0, 3600, 2), 51);
        Due.is("b below it", x.written(0, 3600, 1), 3);
        Due.is("step -1 drops none", x.step(0, 1, -1), false);
        Due.is("no such system drops", x.step(-1, 1, 0) || x.step(4, 1, 0), false);
        Due.is("no such i drops", x.step(0, -1, 0) || x.step(0, 2, 0) || x.step(0, 0, 0), false);
        Due.is("c stays", x.written(0, 3600, 2), 51);
        ClayHouse y = new ClayHouse();
        for (int i = 0; i < 5; i++) {
            Due.is("step 2", y.step(3, i, 2), true);
        }
        Due.is("f is worth 32", y.written(3, 65, 5), 2);
        Due.is("six at most", y.step(3, 5, 2), false);
        Due.is("no g", y.written(3, 65, 6), -1);
    }

    private static void worthLimit() {
        ClayHouse x = new ClayHouse();
        Due.is("100800 is too much", x.step(0, 4, 28), false);
        Due.is("no f came", x.written(0, 1, 5), -1);
        Due.is("97200 is not", x.step(0, 4, 27), true);
        Due.is("106920 by another step", x.step(0, 0, 11), false);
        Due.is("the step stayed", x.written(0, 10, 1), 1);
        Due.is("less is fine", x.step(0, 0, 9), true);
        ClayHouse y = new ClayHouse();
        Due.is("60", y.step(1, 0, 60), true);
        Due.is("60 60", y.step(1, 1, 60), false);
        Due.is("drop", y.step(1, 3, 0), true);
        Due.is("36000", y.step(1, 1, 60), true);
        Due.is("216000", y.step(1, 2, 60), false);
        Due.is("97200", y.step(1, 2, 27), true);
        ClayHouse w = new ClayHouse();
        Due.is("two signs", w.step(0, 3, 0) && w.step(0, 2, 0) && w.step(0, 1, 0), true);
        Due.is("61 is no step, however small the worth", w.step(0, 0, 61), false);
        Due.is("50", w.step(0, 0, 50), true);
        Due.is("50 50", w.step(0, 1, 50), true);
        Due.is("100000", w.step(0, 2, 40), false);
        Due.is("97500", w.step(0, 2, 39), true);
        // 99981 is the greatest that STEPS make below 100000, which is 50 * 50 * 40.
        ClayHouse v = new ClayHouse();
        Due.is("27 23 23", v.step(0, 0, 27) && v.step(0, 3, 2) && v.step(0, 1, 23) && v.step(0, 2, 23), true);
        Due.is("99981", v.step(0, 3, 7), true);
        Due.is("114264", v.step(0, 3, 8), false);
        Due.is("an f of twice as much", v.step(0, 4, 2), false);
        Due.is("e", v.written(0, 99981, 4), 1);
        ClayHouse u = new ClayHouse();
        Due.is("without d and e", u.step(0, 3, 0) && u.step(0, 2, 0), true);
        Due.is("50 50", u.step(0, 0, 50) && u.step(0, 1, 50), true);
        Due.is("100000 by a SIGN more", u.step(0, 2, 40), false);
        Due.is("no d came", u.written(0, 1, 3), -1);
        Due.is("50 50 39", u.step(0, 2, 39), true);
        Due.is("100000 by the last STEP", u.step(0, 2, 40), false);
        Due.is("99450 by the first STEP", u.step(0, 0, 51), true);
        Due.is("101400 by the first STEP", u.step(0, 0, 52), false);
        Due.is("d", u.written(0, 99450, 3), 1);
        // 99960 by three STEPS.
        ClayHouse z = new ClayHouse();
        Due.is("drop e", z.step(0, 3, 0), true);
        Due.is("a", z.step(0, 0, 49), true);
        Due.is("b", z.step(0, 1, 60), true);
        Due.is("c 34", z.step(0, 2, 34), true);
        Due.is("c 35", z.step(0, 2, 35), false);
        Due.is("d", z.written(0, 99960, 3), 1);
    }

    private static void goods() {
        ClayHouse x = new ClayHouse();
        Due.is("step", x.step(1, 0, 5), true);
        Due.is("good", x.good(7, 1), true);
        Due.is("good -1", x.good(-1, 0), false);
        Due.is("good 8", x.good(8, 0), false);
        Due.is("system -1", x.good(0, -1), false);
        Due.is("system 4", x.good(0, 4), false);
        Due.tablet(x, 0, "in good 7 1b; in good 6 1b;", 2);
        Due.is("by system 1", x.line(0, 0, 2), 5);
        Due.is("by system 0", x.line(0, 1, 2), 10);
        Due.is("good back", x.good(7, 0), true);
        Due.is("a tablet keeps its worths", x.line(0, 0, 2), 5);
        Due.tablet(x, 0, "in good 7 1b;", 1);
        Due.is("read again", x.line(0, 0, 2), 10);
        Due.is("system 3", x.good(0, 3), true);
    }

    private static void years() {
        ClayHouse x = new ClayHouse();
        for (int year = 1; year <= 99; year++) {
            Due.is("year()", x.year(), year);
            Due.is("look(0)", x.look(0), year);
        }
        Due.is("year() in 99", x.year(), -1);
        Due.is("look(0) in 99", x.look(0), 99);
    }

    private static void tape() {
        ClayHouse x = new ClayHouse();
        Due.is("end(0) of none", x.end(0), true);
        Due.is("end(1) of none", x.end(1), false);
        Due.is("end(-1) of none", x.end(-1), false);
        for (int i = 1; i <= 40; i++) {
            Due.is("feed " + i, x.feed(i, 0, -1, Integer.MIN_VALUE, Integer.MAX_VALUE), 20 * i);
        }
        Due.is("feed 41", x.feed(1, 2, 3, 4, 5), -1);
        Due.is("end(801)", x.end(801), false);
        Due.is("end(800)", x.end(800), true);
        Due.is("end(-1)", x.end(-1), false);
        Due.is("end(781)", x.end(781), true);
        Due.is("no place for twenty", x.feed(1, 2, 3, 4, 5), -1);
        Due.is("end(782) now", x.end(782), false);
        Due.is("end(780)", x.end(780), true);
        Due.is("place for twenty", x.feed(1, 2, 3, 4, 5), 800);
        Due.is("end(0)", x.end(0), true);
        Due.is("end(1) now", x.end(1), false);

        // The highest byte comes first, and behind a cut the next ones follow.
        ClayHouse y = new ClayHouse();
        Due.is("give ", y.feed(0x67697665, 0x20202031, 0x20676f6f, 0x64203020, 0x3b202020), 20);
        Due.is("end", y.end(17), true);
        Due.is("rules", y.rules(), 1);
        Due.is("end(1) behind rules", y.end(1), false);
        Due.is("give 1", y.feed(0x67697665, 0x20312020, 0x20202020, 0x20202020, 0x20202020), 20);
        Due.is("cut", y.end(6), true);
        Due.is("good 7;", y.feed(0x2020676f, 0x6f642020, 0x20202020, 0x20202020, 0x2020373b), 26);
        Due.is("rules", y.rules(), 1);
        Due.is("fault", y.fault(0), 0);
        Due.is("a byte above 127 is no token", y.feed(0xff202020, 0, 0, 0, 0), 20);
        Due.is("rules", y.rules(), -1);
        Due.is("fault(0)", y.fault(0), 1);
        Due.is("fault(1)", y.fault(1), 0);
    }
}
