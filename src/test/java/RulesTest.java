/** Promises 9, 10, 24 to 28: rules, fault, person, works, store, month, ration. */
public final class RulesTest {
    public static void main(String[] args) {
        persons();
        days();
        store();
        facts();
        reckoning();
        wrapping();
        limitsOfE();
        conditions();
        everyByte();
        cantStand();
        notAllowed();
        tooMany();
        faultsLeaveTheRules();
        months();
        monthsTakeInOrder();
        rations();
        againstAnotherReckoning();
        Due.done();
    }

    private static void persons() {
        ClayHouse x = new ClayHouse();
        Due.is("sort -1", x.person(-1, 0, -1), -1);
        Due.is("sort 4", x.person(4, 0, -1), -1);
        Due.is("age -1", x.person(0, -1, -1), -1);
        Due.is("age 100", x.person(0, 100, -1), -1);
        Due.is("mother 0", x.person(0, 0, 0), -1);
        Due.is("mother -2", x.person(0, 0, -2), -1);
        Due.is("none came", x.look(1), 0);
        for (int p = 0; p < 32; p++) {
            Due.is("person", x.person(p % 4, 99 - p, p - 1), p);
        }
        Due.is("a 33rd", x.person(0, 0, -1), -1);
        Due.is("look(1)", x.look(1), 32);
    }

    private static void days() {
        ClayHouse x = new ClayHouse();
        Due.is("no such", x.works(0, 1), false);
        x.person(0, 0, -1);
        Due.is("p -1", x.works(-1, 1), false);
        Due.is("days -1", x.works(0, -1), false);
        Due.is("days 31", x.works(0, 31), false);
        Due.rules(x, "give days good 0;", 1);
        Due.is("no days at first", x.ration(0, 0, 0), 0);
        Due.is("days 30", x.works(0, 30), true);
        Due.is("thirty", x.ration(0, 0, 0), 30);
        Due.is("days 0", x.works(0, 0), true);
        Due.is("none", x.ration(0, 0, 0), 0);
    }

    private static void store() {
        ClayHouse x = new ClayHouse();
        Due.is("good -1", x.store(-1, 1), -1);
        Due.is("good 8", x.store(8, 1), -1);
        Due.is("v -1", x.store(0, -1), -1);
        Due.is("v 10000000", x.store(0, 10000000), -1);
        Due.is("v greatest int", x.store(0, Integer.MAX_VALUE), -1);
        Due.is("v least int", x.store(0, Integer.MIN_VALUE), -1);
        Due.is("9999999", x.store(0, 9999999), 9999999);
        Due.is("one more", x.store(0, 1), -1);
        Due.is("none more", x.store(0, 0), 9999999);
        Due.is("another", x.store(7, 5), 5);
        Due.is("and more", x.store(7, 6), 11);
        Due.is("look(10)", x.look(10), 9999999);
        Due.is("look(17)", x.look(17), 11);
        Due.is("look(16)", x.look(16), 0);
    }

    private static ClayHouse withPerson(int sort, int age) {
        ClayHouse x = new ClayHouse();
        Due.is("person", x.person(sort, age, -1), 0);
        return x;
    }

    private static void facts() {
        ClayHouse x = withPerson(3, 41);
        x.person(0, 20, 0);
        x.person(1, 2, 1);
        x.person(2, 18, 0);
        x.works(0, 7);
        Due.rules(x, "give sort good 0; give age good 1; give days good 2; give kids good 3; give month good 4;", 5);
        Due.is("sort", x.ration(0, 0, 11), 3);
        Due.is("age", x.ration(0, 1, 11), 41);
        Due.is("days", x.ration(0, 2, 11), 7);
        Due.is("kids", x.ration(0, 3, 11), 2);
        Due.is("month", x.ration(0, 4, 11), 11);
        Due.is("kids of 1", x.ration(1, 3, 0), 1);
        Due.is("kids of 2", x.ration(2, 3, 0), 0);
        Due.is("age of 3", x.ration(3, 1, 0), 18);
        Due.is("another kid", x.person(0, 0, 2), 4);
        Due.is("kids of 2", x.ration(2, 3, 0), 1);
    }

    private static void ask(ClayHouse x, String e, int due) {
        Due.rules(x, "give " + e + " good 0;", 1);
        Due.is(e, x.ration(0, 0, 2), due);
    }

    private static void reckoning() {
        ClayHouse x = withPerson(3, 41);
        ask(x, "7", 7);
        ask(x, "0007", 7);
        ask(x, "10-3-2", 5);
        ask(x, "10-3+2", 9);
        ask(x, "2+3*4", 14);
        ask(x, "2*3+4", 10);
        ask(x, "20-2*3-1", 13);
        ask(x, "20-2*3*2+1", 9);
        ask(x, "7/2*2", 6);
        ask(x, "7*2/2", 7);
        ask(x, "100/3/3", 11);
        ask(x, "100-90/4", 78);
        ask(x, "age*month/3+sort", 30);
        ask(x, "sort+age*month/3", 30);
    }

    private static void wrapping() {
        ClayHouse x = withPerson(0, 0);
        // 256 to the 4th wraps to 0; 9999 * 9999 * 22 wraps below 0, to -2095407274.
        ask(x, "256*256*256*256+5", 5);
        ask(x, "9999*9999*22", 0);
        ask(x, "0-9999*9999*22/9999/100", 2095);
        ask(x, "9999*9999*11/9999/9999", 11);
        // Towards 0: -209561.68 and -2.1, not downwards.
        ask(x, "9999*9999*22/9999+9999*20+9600", 19);
        ask(x, "9999*9999*22/9999/9999/9+5", 3);
        ask(x, "0-5/2+10", 8);
        ask(x, "10+sort-5", 5);
        // The sum wraps too: 2147395600 and 99980001 more.
        ask(x, "6620*7*6620*7+9999*9999", 0);
        ask(x, "0-6620*7*6620*7-9999*9999", 9999);
        when(x, "6620*7*6620*7+9999*9999<0", true);
        when(x, "9999*9999*22<0-1", true);
        // 2 to the 31 is the least Int; less by 1 it is the greatest, and 0 less it is the least again.
        String least = "8192*8192*32";
        when(x, least + "<0", true);
        when(x, least + "-1>0", true);
        ask(x, least + "-1", 9999);
        ask(x, least, 0);
        when(x, "0-" + least + "=" + least, true);
        when(x, least + "/1=" + least, true);
        when(x, least + "+" + least + "=0", true);
        when(x, least + "-1+1=" + least, true);
        // Towards 0: -214769.8 becomes -214769.
        when(x, least + "/9999=0-2147*100-69", true);
        when(x, least + "/9999=0-2147*100-70", false);
        ask(x, least + "*2+7", 7);
        ask(x, least + "*3/8192/8192/2+20", 4);
    }

    private static void limitsOfE() {
        ClayHouse x = withPerson(0, 0);
        ask(x, "9999", 9999);
        ask(x, "9999+1", 9999);
        ask(x, "9999*2", 9999);
        ask(x, "0-1", 0);
        ask(x, "0", 0);
        Due.rules(x, "give 9999+1 good 0; give 0-5 good 0; give 3 good 0;", 3);
        Due.is("each by itself", x.ration(0, 0, 0), 10002);
    }

    private static void when(ClayHouse x, String b, boolean due) {
        Due.rules(x, "give 1 good 0 when " + b + ";", 1);
        Due.is(b, x.ration(0, 0, 2), due ? 1 : 0);
    }

    private static void conditions() {
        ClayHouse x = withPerson(3, 41);
        when(x, "1<2", true);
        when(x, "2<2", false);
        when(x, "2=2", true);
        when(x, "2=3", false);
        when(x, "3>2", true);
        when(x, "2>2", false);
        when(x, "age-40=1", true);
        when(x, "40<age+0", true);
        when(x, "0-1<0", true);
        when(x, "not 1=1", false);
        when(x, "not not 1=1", true);
        when(x, "1=1 or 1=1 and 1=2", true);
        when(x, "(1=1 or 1=1) and 1=2", false);
        when(x, "1=2 and 1=1 or 1=1", true);
        when(x, "1=2 and (1=1 or 1=1)", false);
        when(x, "1=2 or 1=2 or 1=1", true);
        when(x, "1=2 or 1=2 or 1=2", false);
        when(x, "1=1 and 1=1 and 1=2", false);
        when(x, "1=1 and 1=1 and 1=1", true);
        when(x, "not 1=1 or 1=1", true);
        when(x, "not (1=1 or 1=1)", false);
        when(x, "not 1=2 and 1=2", false);
        when(x, "1=2 or 1=1 and 1=1 or 1=2", true);
        when(x, "((((sort=3))))", true);
        when(x, "month=2and age>40or 1=2", true);
        when(x, "((((((((1=1))))))))", true);
        when(x, "not not not not not not not not 1=1", true);
        when(x, "(not (not (not (not 1=1))))", true);
        when(x, "(1=1) and (1=1) and (1=1) and (1=1) and (1=1) and (1=1) and (1=1) and (1=1) and (1=1)", true);
        when(x, "not 1=2 and not 1=2 and not 1=2 and not 1=2 and not 1=2 and not 1=2 and not 1=2 and not 1=2"
                + " and not 1=2 and not 1=2", true);
    }

    private static void everyByte() {
        for (char c = 0; c < 256; c++) {
            ClayHouse x = withPerson(0, 0);
            boolean blank = c == ' ' || c == '\n';
            boolean digit = c >= '0' && c <= '9';
            String behindE = "give 1" + c + "good 0;";
            if (blank || digit) {
                Due.rules(x, behindE, 1);
                Due.is("E", x.ration(0, 0, 0), digit ? 10 + c - '0' : 1);
            } else {
                Due.rulesFault(x, behindE, 1, "+-*/".indexOf(c) >= 0 ? 7 : 6);
            }
            String asUnit = "give " + c + " good 0;";
            if (digit) {
                Due.rules(x, asUnit, 1);
            } else {
                Due.rulesFault(x, asUnit, 1, blank ? 7 : 5);
            }
            String asSign = "give 5 good 0 when 1 " + c + " 1;";
            if (c == '<' || c == '=' || c == '>') {
                Due.rules(x, asSign, 1);
                Due.is("B", x.ration(0, 0, 0), c == '=' ? 5 : 0);
            } else if ("+-*/".indexOf(c) >= 0) {
                Due.rulesFault(x, asSign, 1, 24);
            } else {
                Due.rulesFault(x, asSign, 1, blank ? 23 : 21);
            }
            String asC = "give 5 good 0 when " + c + " 1=1);";
            if (c == '(') {
                Due.rules(x, asC, 1);
            } else {
                Due.rulesFault(x, asC, 1, digit ? 21 : blank ? 24 : 19);
            }
        }
    }

    private static void cantStand() {
        ClayHouse x = new ClayHouse();
        Due.rules(x, "", 0);
        Due.rules(x, " \n", 0);
        Due.rulesFault(x, ";", 1, 0);
        Due.rulesFault(x, "give", 1, 4);
        Due.rulesFault(x, "give ", 1, 5);
        Due.rulesFault(x, "give ;", 1, 5);
        Due.rulesFault(x, "give -1 good 0;", 1, 5);
        Due.rulesFault(x, "give 1+ good 0;", 1, 8);
        Due.rulesFault(x, "give 1* good 0;", 1, 8);
        Due.rulesFault(x, "give 1/ good 0;", 1, 8);
        Due.rulesFault(x, "give 1/age good 0;", 1, 7);
        Due.rulesFault(x, "give 1 1 good 0;", 1, 7);
        Due.rulesFault(x, "give 1 good", 1, 11);
        Due.rulesFault(x, "give 1 good age;", 1, 12);
        Due.rulesFault(x, "give 1 good 0", 1, 13);
        Due.rulesFault(x, "give 1 good 0 give", 1, 14);
        Due.rulesFault(x, "give 1 good 0 when", 1, 18);
        Due.rulesFault(x, "give 1 good 0 when;", 1, 18);
        Due.rulesFault(x, "give 1 good 0 when 1;", 1, 20);
        Due.rulesFault(x, "give 1 good 0 when 1=;", 1, 21);
        Due.rulesFault(x, "give 1 good 0 when 1==1;", 1, 21);
        Due.rulesFault(x, "give 1 good 0 when 1=1=1;", 1, 22);
        Due.rulesFault(x, "give 1 good 0 when 1=1 1;", 1, 23);
        Due.rulesFault(x, "give 1 good 0 when 1=1 or;", 1, 25);
        Due.rulesFault(x, "give 1 good 0 when 1=1 and;", 1, 26);
        Due.rulesFault(x, "give 1 good 0 when not;", 1, 22);
        Due.rulesFault(x, "give 1 good 0 when (1=1;", 1, 23);
        Due.rulesFault(x, "give 1 good 0 when 1=1);", 1, 22);
        Due.rulesFault(x, "give 1 good 0 when (1+1)=2;", 1, 23);
        Due.rulesFault(x, "give 1 good 0 when ();", 1, 20);
        Due.rulesFault(x, "give 1 good 0 when 1<>2;", 1, 21);
        Due.rulesFault(x, "give (1) good 0;", 1, 5);
        Due.rulesFault(x, "give a good 0;", 1, 5);
        Due.rulesFault(x, "give ? good 0;", 1, 5);
        Due.rulesFault(x, "give 10000 good 0;", 1, 5);
        Due.rulesFault(x, "give 1/10000 good 0;", 1, 7);
        Due.rulesFault(x, "give 1 good 00000;", 1, 12);
        Due.rulesFault(x, "giveage good 0;", 1, 0);
        Due.rulesFault(x, "give1good0;give Age good 0;", 1, 16);
        Due.rulesFault(x, "give 1 good 0;\t", 1, 14);
        Due.rulesFault(x, "in good 0 1 a;", 1, 0);
    }

    private static void notAllowed() {
        ClayHouse x = new ClayHouse();
        Due.rulesFault(x, "give 1/0 good 0;", 2, 7);
        Due.rulesFault(x, "give 1/0000 good 0;", 2, 7);
        Due.rulesFault(x, "give 1 good 8;", 2, 12);
        Due.rulesFault(x, "give 1 good 9999 zzz", 2, 12);
        Due.rulesFault(x, "give 1 good 0 when 1 = age / 0;", 2, 29);
        Due.rules(x, "give 1/1 good 7;", 1);
        Due.rules(x, "give 0*0 good 0;", 1);
    }

    private static void tooMany() {
        ClayHouse x = withPerson(0, 0);
        StringBuilder text = new StringBuilder();
        for (int i = 0; i < 16; i++) {
            text.append("give 1 good 0;\n");
        }
        Due.rules(x, text.toString(), 16);
        Due.is("all sixteen", x.ration(0, 0, 0), 16);
        Due.rulesFault(x, text + "give", 3, 240);
        Due.rulesFault(x, text + "good", 1, 240);
        String head = "give 1 good 0 when ";
        Due.rulesFault(x, head + "(((((((((", 3, 19 + 8);
        Due.rulesFault(x, head + "not not not not not not not not not", 3, 19 + 32);
        Due.rulesFault(x, head + "not (not (not (not ((", 3, 19 + 20);
        Due.rulesFault(x, head + "not (not (not (not (not 1=1))));", 3, 19 + 20);
        Due.rulesFault(x, head + "1=1 and ((((1=1 or not not not not not", 3, 19 + 35);
        // Closed ones do not count.
        Due.rules(x, head + "((((((((1=1))))))) and not not not not not not not 1=1);", 1);
        Due.rules(x, head + "((((((1=1 and not not 1=1 and not (1=1) or (not 1=1)))))));", 1);
        Due.rulesFault(x, head + "1+((((((((((", 1, 19 + 2);
    }

    private static void faultsLeaveTheRules() {
        ClayHouse x = withPerson(0, 0);
        Due.rules(x, "give 3 good 1;give 4 good 2 when 1=1;", 2);
        Due.rulesFault(x, "give 5 good 1;give 6 good 3 when 2=1; give", 1, 42);
        Due.is("good 1", x.ration(0, 1, 0), 3);
        Due.is("good 2", x.ration(0, 2, 0), 4);
        Due.is("good 3", x.ration(0, 3, 0), 0);
        Due.rules(x, "give 7 good 1;", 1);
        Due.is("good 1", x.ration(0, 1, 0), 7);
        Due.is("good 2", x.ration(0, 2, 0), 0);
        Due.rules(x, "", 0);
        Due.is("good 1", x.ration(0, 1, 0), 0);
        // fault() is of the latest of both.
        Due.rulesFault(x, "zzz", 1, 0);
        Due.tablet(x, 0, "", 0);
        Due.tabletFault(x, 0, "in good 9", 2, 8);
        Due.rules(x, "", 0);
        Due.is("no such tablet", x.tablet(12), -1);
        Due.is("fault(0)", x.fault(0), 0);
    }

    private static void months() {
        ClayHouse x = new ClayHouse();
        Due.is("month -1", x.month(-1), -1);
        Due.is("month 12", x.month(12), -1);
        Due.is("nobody", x.month(11), 0);
        x.person(0, 10, -1);
        x.person(1, 20, 0);
        x.works(0, 5);
        x.works(1, 6);
        Due.is("store", x.store(0, 25), 25);
        Due.rules(x, "give age good 0; give days good 1 when month = 4;", 2);
        Due.is("short by 5 and 11", x.month(4), 16);
        Due.is("none left", x.look(10), 0);
        Due.is("all short", x.look(7), 16);
        Due.is("no days", x.ration(0, 1, 4) + x.ration(1, 1, 4), 0);
        Due.rules(x, "give 3-days good 1; give days+3 good 2; give age good 0;", 3);
        Due.is("just no days", x.ration(0, 1, 4), 3);
        Due.is("just no days", x.ration(1, 1, 4), 3);
        Due.is("just no days", x.ration(1, 2, 4), 3);
        Due.rules(x, "give age good 0; give days good 1 when month = 4;", 2);
        Due.is("short by 30", x.month(5), 30);
        Due.is("all short", x.look(7), 46);
        Due.is("a month that can't be", x.month(12), -1);
        Due.is("all short", x.look(7), 46);
        Due.is("works", x.works(0, 9), true);
        Due.is("a month that can't be", x.month(-1), -1);
        Due.is("days stay", x.ration(0, 1, 4), 9);
    }

    private static void monthsTakeInOrder() {
        // PERSON by PERSON, and of each give by give: what is short for one is not for another good.
        ClayHouse x = new ClayHouse();
        for (int p = 0; p < 32; p++) {
            x.person(0, 0, -1);
        }
        StringBuilder text = new StringBuilder();
        for (int i = 0; i < 16; i++) {
            text.append("give 9999 good ").append(i % 8).append(';');
        }
        Due.rules(x, text.toString(), 16);
        int most = 32 * 16 * 9999;
        Due.is("all of it", x.month(0), most);
        for (int i = 1; i < 430; i++) {
            x.month(i % 12);
        }
        Due.is("more than an int", x.look(7), 430L * most);
        ClayHouse y = new ClayHouse();
        y.person(0, 1, -1);
        y.person(0, 2, -1);
        y.store(3, 10);
        y.store(4, 3);
        Due.rules(y, "give 4 good 3; give 3 good 4; give 4 good 3 when age = 2;", 3);
        Due.is("2 and 3 short", y.month(0), 2 + 3);
        Due.is("good 3", y.look(13), 0);
        Due.is("good 4", y.look(14), 0);
    }

    private static void rations() {
        ClayHouse x = withPerson(0, 5);
        Due.rules(x, "give age good 2; give month good 2 when month > 3; give 1 good 3;", 3);
        Due.is("p -1", x.ration(-1, 2, 0), -1);
        Due.is("p 1", x.ration(1, 2, 0), -1);
        Due.is("g -1", x.ration(0, -1, 0), -1);
        Due.is("g 8", x.ration(0, 8, 0), -1);
        Due.is("m -1", x.ration(0, 2, -1), -1);
        Due.is("m 12", x.ration(0, 2, 12), -1);
        Due.is("month 3", x.ration(0, 2, 3), 5);
        Due.is("month 4", x.ration(0, 2, 4), 9);
        Due.is("another good", x.ration(0, 3, 4), 1);
        Due.is("none of it", x.ration(0, 4, 4), 0);
        Due.is("the store stays", x.look(12), 0);
        Due.is("nothing is short by asking", x.look(7), 0);
    }

    private static void againstAnotherReckoning() {
        Due.Dice dice = new Due.Dice(77);
        for (int run = 0; run < 400; run++) {
            ClayHouse x = new ClayHouse();
            int sort = dice.below(4);
            int age = dice.below(100);
            int days = dice.below(31);
            int kids = dice.below(5);
            int month = dice.below(12);
            x.person(sort, age, -1);
            for (int i = 0; i < kids; i++) {
                x.person(0, 0, 0);
            }
            x.works(0, days);
            Writer writer = new Writer(dice, new int[] {sort, age, days, kids, month});
            writer.text.append("give ");
            int given = Math.max(0, Math.min(9999, writer.sum()));
            writer.text.append(" good 3 when ");
            boolean holds = writer.either(0);
            writer.text.append(';');
            if (writer.text.length() <= 800) {
                Due.rules(x, writer.text.toString(), 1);
                Due.is(writer.text.toString(), x.ration(0, 3, month), holds ? given : 0);
            }
        }
    }

    /** Writes a text by the grammar and reckons it while it writes. */
    private static final class Writer {
        private static final String[] NAMES = {"sort", "age", "days", "kids", "month"};
        private final Due.Dice dice;
        private final int[] facts;
        private final StringBuilder text = new StringBuilder();

        Writer(Due.Dice dice, int[] facts) {
            this.dice = dice;
            this.facts = facts;
        }

        private int unit() {
            int which = dice.below(8);
            if (which < 5) {
                text.append(' ').append(NAMES[which]).append(' ');
                return facts[which];
            }
            int n = which == 5 ? dice.below(10000) : dice.below(60);
            text.append(n);
            return n;
        }

        private int product() {
            int v = unit();
            while (dice.below(3) == 0) {
                if (dice.below(3) > 0) {
                    text.append('*');
                    v *= unit();
                } else {
                    int by = dice.from(1, 40);
                    text.append('/').append(by);
                    v /= by;
                }
            }
            return v;
        }

        int sum() {
            int v = product();
            while (dice.below(3) == 0) {
                boolean more = dice.below(2) == 0;
                text.append(more ? '+' : '-');
                int next = product();
                v = more ? v + next : v - next;
            }
            return v;
        }

        boolean either(int open) {
            boolean v = both(open);
            while (dice.below(4) == 0) {
                text.append(" or ");
                v |= both(open);
            }
            return v;
        }

        private boolean both(int open) {
            boolean v = condition(open);
            while (dice.below(4) == 0) {
                text.append(" and ");
                v &= condition(open);
            }
            return v;
        }

        private boolean condition(int open) {
            int which = open < 8 ? dice.below(5) : 4;
            if (which == 0) {
                text.append(" not ");
                return !condition(open + 1);
            }
            if (which == 1) {
                text.append('(');
                boolean v = either(open + 1);
                text.append(')');
                return v;
            }
            int a = sum();
            int how = dice.below(3);
            text.append("<=>".charAt(how));
            int b = sum();
            return how == 0 ? a < b : how == 1 ? a == b : a > b;
        }
    }
}
