/** Promises 8, 10, 11, 12: tablet, fault, line, stock. */
public final class TabletTest {
    public static void main(String[] args) {
        lines();
        tokens();
        everyByte();
        cantStand();
        notAllowed();
        everyCount();
        countAgainstSignBehind();
        tooMany();
        firstByPlace();
        whatAFaultLeaves();
        blocks();
        quarrels();
        fills();
        spans();
        stepsWhenRead();
        stock();
        stockOfAll();
        Due.done();
    }

    private static void lines() {
        ClayHouse x = new ClayHouse();
        Due.is("year", x.year(), 1);
        Due.tablet(x, 11, "in good 0 1 e 2 d 3 c 4 b 5 a;\nout good 7 99e;sum good 3 0 a;", 3);
        Due.is("worth", x.line(11, 0, 2), 3600 + 1200 + 180 + 40 + 5);
        Due.is("greatest", x.line(11, 0, 3), 3600 + 1200 + 180 + 40 + 5);
        Due.is("in", x.line(11, 0, 0), 0);
        Due.is("out", x.line(11, 1, 0), 1);
        Due.is("sum", x.line(11, 2, 0), 2);
        Due.is("good 0", x.line(11, 0, 1), 0);
        Due.is("good 7", x.line(11, 1, 1), 7);
        Due.is("good 3", x.line(11, 2, 1), 3);
        Due.is("99e", x.line(11, 1, 2), 356400);
        Due.is("sum of none", x.line(11, 2, 4), 1);
        Due.is("year of it", x.line(11, 2, 5), 1);
        Due.is("another what", x.line(11, 0, 6), -1);
        Due.is("what -1", x.line(11, 0, -1), -1);
        Due.is("line -1", x.line(11, -1, 0), -1);
        Due.is("line 3", x.line(11, 3, 0), -1);
        Due.is("tablet 12", x.line(12, 0, 0), -1);
        Due.is("tablet -1", x.line(-1, 0, 0), -1);
        Due.is("no line", x.line(0, 0, 5), -1);
        Due.is("tablets of a year", x.look(6), 1);
        Due.tablet(x, 11, "", 0);
        Due.is("no lines any more", x.line(11, 0, 0), -1);
        Due.is("still of a year", x.look(6), 1);
        Due.tablet(x, 0, " \n ", 0);
        Due.is("two of a year", x.look(6), 2);
    }

    private static void tokens() {
        ClayHouse x = new ClayHouse();
        Due.tablet(x, 0, "in good0 1a;", 1);
        Due.tablet(x, 0, "in\ngood\n0\n1\na\n;\n", 1);
        Due.tablet(x, 0, "in good 0 2b1a;", 1);
        Due.is("21", x.line(0, 0, 2), 21);
        Due.tablet(x, 0, "in good 0007 0005 b;", 1);
        Due.is("50", x.line(0, 0, 2), 50);
        Due.tabletFault(x, 0, "in good 00007 5 b;", 1, 8);
        Due.tabletFault(x, 0, "ingood 0 1 a;", 1, 0);
        Due.tabletFault(x, 0, "In good 0 1 a;", 1, 0);
        Due.tabletFault(x, 0, "in good 0 1 ab;", 1, 12);
        Due.tabletFault(x, 0, "in good 0 1 g;", 1, 12);
        Due.tabletFault(x, 0, "in good 0 1 az;", 1, 12);
        Due.tabletFault(x, 0, "in good 0 1 aA;", 1, 12);
        Due.tabletFault(x, 0, "in good 0 1 aZ;", 1, 12);
        Due.tabletFault(x, 0, "in good 0 1 a`;", 1, 13);
        Due.tabletFault(x, 0, "in good 0 1 a{;", 1, 13);
        Due.tabletFault(x, 0, "in good 0 1 a@;", 1, 13);
        Due.tabletFault(x, 0, "in good 0 1 a[;", 1, 13);
        Due.tabletFault(x, 0, "in good 0 1:a;", 1, 11);
        Due.tabletFault(x, 0, "in good 0 1/a;", 1, 11);
        Due.tabletFault(x, 0, "in good 0 1 A;", 1, 12);
        Due.tabletFault(x, 0, "in\tgood 0 1 a;", 1, 2);
        Due.tabletFault(x, 0, "in good 0 1 a;\r", 1, 14);
        Due.tabletFault(x, 0, "in good 0 1 a,", 1, 13);
        Due.tabletFault(x, 0, "in good 0 losta;", 1, 10);
        Due.tabletFault(x, 0, "in good 0 1 a;\u00e9", 1, 14);
    }

    // Only 32 and 10 are blanks; no byte is a TOKEN by the number that it has.
    private static void everyByte() {
        for (char c = 0; c < 256; c++) {
            ClayHouse x = new ClayHouse();
            boolean blank = c == ' ' || c == '\n';
            boolean digit = c >= '0' && c <= '9';
            String ahead = c + "in good 0 1 a;";
            String within = "in good 0 1" + c + "a;";
            String behind = "in good 0 1 a;" + c;
            if (blank) {
                Due.tablet(x, 0, ahead, 1);
                Due.tablet(x, 0, within, 1);
                Due.tablet(x, 0, behind, 1);
            } else {
                Due.tabletFault(x, 0, ahead, 1, 0);
                Due.tabletFault(x, 0, within, digit ? 2 : 1, digit ? 10 : 11);
                Due.tabletFault(x, 0, behind, 1, 14);
            }
            Due.tabletFault(x, 0, c + " good 0 1 a;", 1, blank ? 2 : 0);
            String asSign = "in good 0 1 " + c + ";";
            if (c >= 'a' && c <= 'e') {
                Due.tablet(x, 0, asSign, 1);
            } else {
                Due.tabletFault(x, 0, asSign, c == 'f' ? 2 : 1, blank ? 13 : 12);
            }
            String asCount = "in good 0 " + c + " a;";
            if (digit || c == '?') {
                Due.tablet(x, 0, asCount, 1);
            } else {
                Due.tabletFault(x, 0, asCount, 1, blank ? 12 : 10);
            }
        }
    }

    private static void cantStand() {
        ClayHouse x = new ClayHouse();
        Due.tabletFault(x, 0, ";", 1, 0);
        Due.tabletFault(x, 0, "good", 1, 0);
        Due.tabletFault(x, 0, "in", 1, 2);
        Due.tabletFault(x, 0, "in  ", 1, 4);
        Due.tabletFault(x, 0, "in 0", 1, 3);
        Due.tabletFault(x, 0, "in good", 1, 7);
        Due.tabletFault(x, 0, "in good a", 1, 8);
        Due.tabletFault(x, 0, "in good ?", 1, 8);
        Due.tabletFault(x, 0, "in good 0", 1, 9);
        Due.tabletFault(x, 0, "in good 0 ;", 1, 10);
        Due.tabletFault(x, 0, "in good 0 a", 1, 10);
        Due.tabletFault(x, 0, "in good 0 1", 1, 11);
        Due.tabletFault(x, 0, "in good 0 1;", 1, 11);
        Due.tabletFault(x, 0, "in good 0 1 1 a;", 1, 12);
        Due.tabletFault(x, 0, "in good 0 ?;", 1, 11);
        Due.tabletFault(x, 0, "in good 0 ? ? a;", 1, 12);
        Due.tabletFault(x, 0, "in good 0 1 a  ", 1, 15);
        Due.tabletFault(x, 0, "in good 0 1 b a;", 1, 14);
        Due.tabletFault(x, 0, "in good 0 1 b lost;", 1, 14);
        Due.tabletFault(x, 0, "in good 0 lost 1 a;", 1, 15);
        Due.tabletFault(x, 0, "in good 0 lost", 1, 14);
        Due.tabletFault(x, 0, "in good 0 1 a;;", 1, 14);
        Due.tabletFault(x, 0, "in good 0 1 a; 5", 1, 15);
        Due.tabletFault(x, 0, "in good 0 1 a; give", 1, 15);
        Due.tabletFault(x, 0, "sum good 0 1 b 1", 1, 16);
    }

    private static void notAllowed() {
        ClayHouse x = new ClayHouse();
        Due.tabletFault(x, 0, "in good 8 1 a;", 2, 8);
        Due.tabletFault(x, 0, "out  good 9999 1 a;", 2, 10);
        Due.tablet(x, 0, "in good 0 9 a;", 1);
        Due.tabletFault(x, 0, "in good 0 10 a;", 2, 10);
        Due.tablet(x, 0, "in good 0 5 b;", 1);
        Due.tabletFault(x, 0, "in good 0 6 b;", 2, 10);
        Due.tablet(x, 0, "in good 0 99 e;", 1);
        Due.tabletFault(x, 0, "in good 0 100 e;", 2, 10);
        Due.tablet(x, 0, "in good 0 0 e;", 1);
        Due.tabletFault(x, 0, "in good 0 1 f;", 2, 12);
        Due.tabletFault(x, 0, "in good 0 ? f;", 2, 12);
        Due.tabletFault(x, 0, "in good 0 1 a 1 a;", 2, 16);
        Due.tabletFault(x, 0, "in good 0 1 c 1 a 1 b;", 2, 20);
        Due.tabletFault(x, 0, "in good 0 ? c ? c;", 2, 16);
        Due.is("an f", x.step(0, 4, 5), true);
        Due.tablet(x, 0, "in good 0 99f 4e 5d 9c 5b 9a;", 1);
        Due.tabletFault(x, 0, "in good 0 99f 5e;", 2, 14);
        Due.tabletFault(x, 0, "in good 0 1f 1e 1d 1c 1b 1a 1a;", 2, 29);
        Due.is("two signs", x.step(1, 3, 0) && x.step(1, 2, 0) && x.step(1, 1, 0) && x.good(5, 1), true);
        Due.tablet(x, 1, "in good 5 99b9a;", 1);
        Due.is("999", x.line(1, 0, 2), 999);
        Due.tabletFault(x, 1, "in good 5 1c;", 2, 11);
        Due.tabletFault(x, 1, "in good 5 100b;", 2, 10);
    }

    private static void everyCount() {
        ClayHouse first = new ClayHouse();
        int[] atFirst = {9, 5, 9, 5, 99};
        for (int i = 0; i < 5; i++) {
            countsOf(first, 0, i, atFirst[i]);
        }
        ClayHouse x = new ClayHouse();
        Due.is("one good by it", x.good(7, 3), true);
        int[] steps = {2, 60, 3, 59, 4};
        Due.is("small ones first", x.step(3, 0, 2) && x.step(3, 2, 3) && x.step(3, 3, 2) && x.step(3, 4, 4), true);
        Due.is("then the others", x.step(3, 1, 60) && x.step(3, 3, 59), true);
        for (int i = 0; i < 5; i++) {
            countsOf(x, 7, i, steps[i] - 1);
        }
        countsOf(x, 7, 5, 99);
        everyCountOfFewSigns();
    }

    // Each SYSTEM with each number of SIGNS, by STEPS that tell a SIGN and a SYSTEM from another.
    private static void everyCountOfFewSigns() {
        ClayHouse x = new ClayHouse();
        for (int system = 0; system < 4; system++) {
            Due.is("a good for it", x.good(system + 2, system), true);
            Due.is("an f", x.step(system, 4, 2), true);
            for (int i = 0; i < 5; i++) {
                Due.is("step", x.step(system, i, 3 + i + system / 2), true);
            }
            for (int signs = 6; signs >= 2; signs--) {
                for (int i = 0; i < signs; i++) {
                    countsOf(x, system + 2, i, i == signs - 1 ? 99 : 2 + i + system / 2);
                }
                if (signs < 6) {
                    char gone = "abcdef".charAt(signs);
                    Due.tabletFault(x, 0, "in good " + (system + 2) + " 1 " + gone + ";", 2, 12);
                }
                Due.is("drop the last one", x.step(system, signs - 2, 0), signs > 2);
            }
        }
    }

    // The last COUNT of a SIGN that can be, the first that can't, and what a ? of it may be.
    private static void countsOf(ClayHouse x, int good, int i, int most) {
        char sign = "abcdef".charAt(i);
        String line = "in good " + good + " ";
        Due.tablet(x, 0, line + most + sign + ";", 1);
        long worth = x.line(0, 0, 2);
        Due.tabletFault(x, 0, line + (most + 1) + sign + ";", 2, 10);
        Due.tabletFault(x, 0, line + 9999 + sign + ";", 2, 10);
        Due.tablet(x, 0, line + 0 + sign + ";", 1);
        Due.is("0", x.line(0, 0, 3), 0);
        Due.tablet(x, 0, line + "?" + sign + ";", 1);
        Due.is("least", x.line(0, 0, 2), 0);
        Due.is("greatest", x.line(0, 0, 3), worth);
        Due.is("fills", x.line(0, 0, 4), most + 1);
    }

    private static void countAgainstSignBehind() {
        ClayHouse x = new ClayHouse();
        // No SIGN of the SYSTEM behind it: the COUNT can't be held against one.
        Due.tabletFault(x, 0, "in good 0 1000 f;", 2, 15);
        Due.tabletFault(x, 0, "in good 0 1000;", 1, 14);
        Due.tabletFault(x, 0, "in good 0 1000 good;", 1, 15);
        // Nor against a SIGN that is not lesser than the one ahead: the FAULT is at that SIGN.
        Due.tabletFault(x, 0, "in good 0 1 a 9 b;", 2, 16);
        Due.tabletFault(x, 0, "in good 0 1 a 5 b;", 2, 16);
        Due.tabletFault(x, 0, "in good 0 1 b 6 b;", 2, 16);
        Due.tabletFault(x, 0, "in good 0 1 a 9999 e;", 2, 19);
        Due.tabletFault(x, 0, "in good 0 1 a 9999 f;", 2, 19);
        Due.tabletFault(x, 0, "in good 0 ? a 10 a;", 2, 17);
        Due.tabletFault(x, 0, "in good 0 5 b 2 a 9 b;", 2, 20);
        // A SIGN that can be there: the COUNT is held against it, and the FAULT is at the COUNT.
        Due.tabletFault(x, 0, "in good 0 1 c 6 b;", 2, 14);
        Due.tabletFault(x, 0, "in good 0 ? b 10 a;", 2, 14);
        Due.tabletFault(x, 0, "in good 0 1 c 6 b 9 d;", 2, 14);
        Due.tablet(x, 0, "in good 0 1 c 5 b;", 1);
    }

    private static void tooMany() {
        ClayHouse x = new ClayHouse();
        StringBuilder text = new StringBuilder();
        for (int i = 0; i < 24; i++) {
            text.append("in good 0 1 a;");
        }
        Due.tablet(x, 0, text.toString(), 24);
        Due.is("the last line", x.line(0, 23, 2), 1);
        Due.tabletFault(x, 0, text + " out", 3, 24 * 14 + 1);
        Due.tabletFault(x, 0, text + "sum", 3, 24 * 14);
        Due.tabletFault(x, 0, text + "good", 1, 24 * 14);
        Due.is("stays", x.line(0, 23, 2), 1);

        Due.tablet(x, 0, "in good 0 ?b ?a;", 1);
        Due.tabletFault(x, 0, "in good 0 ?c ?b ?a;", 3, 16);
        Due.tabletFault(x, 0, "in good 0 ?a;out good 0 ?a;sum good 0 ?a;", 3, 38);
        Due.tablet(x, 0, "in good 0 ?b ?a;sum good 0 lost;in good 0 ?b ?a;out good 0 lost;", 4);
        Due.tablet(x, 0, "in good 0 ?b ?a;in good 1 ?b ?a;out good 1 lost;out good 0 lost;", 4);
        Due.tabletFault(x, 0, "in good 0 lost;in good 1 lost;out good 0 lost;", 3, 41);
        Due.tabletFault(x, 0, "in good 0 lost;sum good 0 lost;", 3, 26);
        Due.tablet(x, 0, "in good 0 lost;sum good 0 1a;sum good 0 lost;", 3);
        Due.tabletFault(x, 0, "in good 0 ?b ?a; in good 0 ? ?;", 3, 27);
        // Where it can't stand at all, that is the lesser FAULT.
        Due.tabletFault(x, 0, "in good 0 ?b ?a ;in good 0 1 ?;", 1, 29);
        Due.tabletFault(x, 0, "in good 0 lost; in good 0 1a lost;", 1, 29);
    }

    private static void firstByPlace() {
        ClayHouse x = new ClayHouse();
        Due.tabletFault(x, 0, "in good 9 77 a;", 2, 8);
        Due.tabletFault(x, 0, "in good 0 77 a 1 f; zzz", 2, 10);
        Due.tabletFault(x, 0, "in good 0 1 a; zzz in good 9", 1, 15);
    }

    private static void whatAFaultLeaves() {
        ClayHouse x = new ClayHouse();
        Due.tablet(x, 3, "in good 0 3 a;", 1);
        Due.is("year", x.year(), 1);
        Due.tabletFault(x, 3, "in good 0 4 a; in good 0 5", 1, 26);
        Due.is("the line", x.line(3, 0, 2), 3);
        Due.is("its year", x.line(3, 0, 5), 0);
        Due.is("one of a year", x.look(6), 1);
        Due.put(x, "in good 9 4 a;");
        Due.is("no such tablet", x.tablet(12), -1);
        Due.is("tells 0", x.fault(0), 0);
        Due.is("no place", x.fault(1), -1);
        Due.is("the tape is empty", x.end(1), false);
        Due.put(x, "in good 0 4 a;");
        Due.is("no such tablet", x.tablet(-1), -1);
        Due.is("the tape is empty", x.end(1), false);
        Due.is("none more", x.look(6), 1);
        Due.tablet(x, 3, "in good 0 4 a;", 1);
        Due.is("the line", x.line(3, 0, 2), 4);
        Due.is("its year", x.line(3, 0, 5), 1);
    }

    private static void blocks() {
        ClayHouse x = new ClayHouse();
        Due.tablet(x, 0, "in good 0 5a;in good 1 ?a;out good 0 2a;sum good 0 3a;in good 0 ?b;sum good 1 4a;", 6);
        Due.is("closed", x.line(0, 0, 4), 1);
        Due.is("of another good", x.line(0, 1, 4), 1);
        Due.is("found by its sum", x.line(0, 1, 2), 4);
        Due.is("found by its sum", x.line(0, 1, 3), 4);
        Due.is("open behind the sum", x.line(0, 4, 4), 6);
        Due.is("open least", x.line(0, 4, 2), 0);
        Due.is("open greatest", x.line(0, 4, 3), 50);
        Due.is("sum", x.line(0, 5, 4), 1);
    }

    private static void quarrels() {
        ClayHouse x = new ClayHouse();
        Due.tablet(x, 0, "in good 0 5a;sum good 0 4a;in good 0 6a;in good 1 ?a;sum good 1 1b;", 5);
        Due.is("fills", x.line(0, 0, 4), 0);
        Due.is("least", x.line(0, 0, 2), -1);
        Due.is("greatest", x.line(0, 1, 3), -1);
        Due.is("kind", x.line(0, 1, 0), 2);
        Due.is("good", x.line(0, 0, 1), 0);
        Due.is("year", x.line(0, 0, 5), 0);
        Due.is("the open one does not", x.line(0, 2, 4), 1);
        Due.is("its worth", x.line(0, 2, 2), 6);
        Due.is("9 is below 10", x.line(0, 3, 4), 0);
        Due.is("no span", x.line(0, 3, 2), -1);
        Due.is("a quarrel counts 0", x.stock(0, 0, 1), 6);
        Due.is("a quarrel counts 0", x.stock(1, 0, 1), 0);
        // What QUARRELS is the BLOCK alone, not the LINES of another one between its own and behind.
        Due.tablet(x, 5, "in good 6 ?a;in good 7 5a;out good 6 2a;in good 5 3a;sum good 7 4a;sum good 6 1a;", 6);
        int[] spans = {3, -1, 2, 3, -1, 1};
        for (int i = 0; i < spans.length; i++) {
            Due.is("least", x.line(5, i, 2), spans[i]);
            Due.is("greatest", x.line(5, i, 3), spans[i]);
            Due.is("fills", x.line(5, i, 4), spans[i] == -1 ? 0 : 1);
        }
        // More went out than came in: no sum is below 0.
        Due.tablet(x, 1, "out good 2 1a;sum good 2 lost;sum good 3 1a;", 3);
        Due.is("below 0", x.line(1, 0, 4), 0);
        Due.is("a sum alone", x.line(1, 2, 4), 0);
        // What is lost may not be above 99999: 27e 4d 6c 3b 9a are just that.
        Due.tablet(x, 2, "out good 4 lost;in good 4 27e 4d 6c 3b 9a;sum good 4 0a;", 3);
        Due.is("99999 is not above", x.line(2, 0, 2), 99999);
        Due.is("one fill", x.line(2, 0, 4), 1);
        Due.tablet(x, 2, "out good 4 lost;in good 4 27e 4d 6c 3b 9a;in good 4 1a;sum good 4 0a;", 4);
        Due.is("100000 is above", x.line(2, 0, 4), 0);
        Due.tablet(x, 2, "in good 5 lost;sum good 5 27e 4d 6c 3b 9a;", 2);
        Due.is("by the sum", x.line(2, 0, 3), 99999);
        Due.tablet(x, 2, "in good 5 lost;out good 5 1a;sum good 5 27e 4d 6c 3b 9a;", 3);
        Due.is("above", x.line(2, 0, 4), 0);
    }

    private static void fills() {
        ClayHouse x = new ClayHouse();
        Due.tablet(x, 0, "in good 0 ? e ? d; out good 0 lost;", 2);
        Due.is("100 times 6 times 100000", x.line(0, 0, 4), 60000000);
        Due.tablet(x, 0, "in good 0 ? e; in good 0 ? e; out good 0 lost;", 3);
        Due.is("999999999 at most", x.line(0, 2, 4), 999999999);
        Due.tablet(x, 0, "in good 0 ? e; in good 0 ? e;", 2);
        Due.is("ten thousand", x.line(0, 0, 4), 10000);
        Due.tablet(x, 0, "in good 0 ? e; in good 0 ? e; sum good 0 lost;", 3);
        // 3600 times all together is not above 99999: together at most 27.
        Due.is("together at most 27", x.line(0, 2, 4), 28 * 29 / 2);
        Due.is("the sum", x.line(0, 2, 3), 27 * 3600);
        Due.is("one of them", x.line(0, 0, 3), 27 * 3600);
        Due.tablet(x, 0, "in good 0 ? e; out good 0 ? e; sum good 0 0 a;", 3);
        Due.is("as many as the other", x.line(0, 0, 4), 100);
        Due.tablet(x, 0, "in good 0 lost;", 1);
        Due.is("lost alone", x.line(0, 0, 4), 100000);
        Due.is("lost least", x.line(0, 0, 2), 0);
        Due.is("lost greatest", x.line(0, 0, 3), 99999);
        Due.tablet(x, 0, "sum good 0 lost;", 1);
        Due.is("lost sum of none", x.line(0, 0, 3), 0);
        Due.is("one fill", x.line(0, 0, 4), 1);
    }

    private static void spans() {
        ClayHouse x = new ClayHouse();
        Due.tablet(x, 0, "in good 0 ? b ? a; sum good 0 2 b 5 a;", 2);
        Due.is("one fill", x.line(0, 0, 4), 1);
        Due.is("25", x.line(0, 0, 2), 25);
        Due.is("25", x.line(0, 0, 3), 25);
        Due.tablet(x, 0, "in good 0 1 c ? b 3 a; out good 0 ? a; sum good 0 1 c 2 b;", 3);
        Due.is("63 + 10 x - y = 80", x.line(0, 0, 2), 83);
        Due.is("63 + 10 x - y = 80", x.line(0, 1, 3), 3);
        Due.is("one fill", x.line(0, 2, 4), 1);
        Due.tablet(x, 0, "in good 0 1c; out good 0 ? b; sum good 0 ? b;", 3);
        Due.is("six tens", x.line(0, 1, 4), 5);
        Due.is("least", x.line(0, 1, 2), 10);
        Due.is("greatest", x.line(0, 1, 3), 50);
        Due.is("least", x.line(0, 2, 2), 10);
        Due.is("greatest", x.line(0, 2, 3), 50);
        Due.tablet(x, 0, "in good 0 ? b 7 a; out good 0 lost; sum good 0 3 b;", 3);
        Due.is("at least 30", x.line(0, 0, 2), 37);
        Due.is("at most 57", x.line(0, 0, 3), 57);
        Due.is("7", x.line(0, 1, 2), 7);
        Due.is("27", x.line(0, 1, 3), 27);
        Due.is("fills", x.line(0, 1, 4), 3);
    }

    private static void stepsWhenRead() {
        ClayHouse x = new ClayHouse();
        Due.is("drop e", x.step(0, 3, 0), true);
        Due.tablet(x, 0, "in good 0 ? d; in good 1 ? c;", 2);
        Due.is("99 of the greatest", x.line(0, 0, 3), 99 * 600);
        Due.is("9 of another", x.line(0, 1, 3), 9 * 60);
        Due.is("e again", x.step(0, 3, 2), true);
        Due.is("as it was read", x.line(0, 0, 3), 99 * 600);
        Due.tablet(x, 0, "in good 0 ? d; in good 1 ? e;", 2);
        Due.is("1 by step 2", x.line(0, 0, 3), 600);
        Due.is("fills", x.line(0, 0, 4), 2);
        Due.is("99 of e", x.line(0, 1, 3), 99 * 1200);
    }

    private static void stock() {
        ClayHouse x = new ClayHouse();
        Due.tablet(x, 0, "in good 0 5b; out good 0 ?a; in good 1 1a;", 3);
        Due.is("year", x.year(), 1);
        Due.tablet(x, 1, "out good 0 ?b;sum good 2 0a;", 2);
        Due.is("at 0 least", x.stock(0, 0, 0), 41);
        Due.is("at 0 greatest", x.stock(0, 0, 1), 50);
        Due.is("at 1 least", x.stock(0, 1, 0), -9);
        Due.is("at 1 greatest", x.stock(0, 1, 1), 50);
        Due.is("later", x.stock(0, 99, 0), -9);
        Due.is("good 1", x.stock(1, 1, 0), 1);
        Due.is("good 2", x.stock(2, 1, 1), 0);
        long none = -99999999999L;
        Due.is("good -1", x.stock(-1, 1, 1), none);
        Due.is("good 8", x.stock(8, 1, 1), none);
        Due.is("year -1", x.stock(0, -1, 1), none);
        Due.is("year 100", x.stock(0, 100, 1), none);
        Due.is("what 2", x.stock(0, 0, 2), none);
        Due.is("what -1", x.stock(0, 0, -1), none);
        // Read again, it is of the later YEAR alone.
        Due.tablet(x, 0, "in good 0 1a;", 1);
        Due.is("at 0", x.stock(0, 0, 1), 0);
        Due.is("at 1", x.stock(0, 1, 1), 1);
        // Sums do not count.
        Due.tablet(x, 1, "in good 0 3a; sum good 0 3a;", 2);
        Due.is("no sum", x.stock(0, 1, 1), 4);
        Due.is("no sum", x.stock(0, 1, 0), 4);
    }

    private static void stockOfAll() {
        ClayHouse x = new ClayHouse();
        Due.is("an f", x.step(0, 4, 27), true);
        StringBuilder text = new StringBuilder();
        for (int i = 0; i < 24; i++) {
            text.append("in good 0 99 f 26 e 5 d;");
        }
        for (int k = 0; k < 12; k++) {
            Due.tablet(x, k, text.toString(), 24);
        }
        Due.is("twelve tablets", x.look(6), 12);
        Due.is("more than an int", x.stock(0, 0, 1), 12L * 24 * (99 * 97200 + 26 * 3600 + 5 * 600));
    }
}
