/**
 * A temple store kept on clay. What each call answers stands in ../shared/DOC.md; words written
 * there in capitals (SIGN, BLOCK, FILL, SPAN ..) mean the same here.
 */
public final class ClayHouse {
    public static final int NONE = -1;

    private static final int LAST_YEAR = 99;
    private static final int GOODS = 8;
    private static final int LONGEST_SIDE = 999;
    private static final long NO_STOCK = -99999999999L;
    // Above all that is compared with it.
    private static final int GREATEST_INT = 2147483647;

    private final Numbers numbers;
    private final Tape tape;
    private final Draft draft;
    private final Tablets tablets;
    private final Balls balls;
    private final Sealings sealings;
    private final Fragments fragments;
    private final Rules rules;
    private final People people;
    private final Flocks flocks;
    private final Loans loans;
    private int now;

    public ClayHouse() {
        numbers = new Numbers();
        tape = new Tape();
        draft = new Draft(tape, numbers);
        tablets = new Tablets();
        balls = new Balls();
        sealings = new Sealings();
        fragments = new Fragments();
        rules = new Rules(tape);
        people = new People(rules);
        flocks = new Flocks();
        loans = new Loans();
        now = 0;
    }

    public boolean step(int system, int i, int step) {
        return numbers.setStep(system, i, step);
    }

    public boolean good(int g, int system) {
        return numbers.setSystem(g, system);
    }

    public int written(int system, int v, int i) {
        return numbers.countIn(system, v, i);
    }

    public int year() {
        if (now >= LAST_YEAR) {
            return NONE;
        }
        now++;
        return now;
    }

    public int feed(int a, int b, int c, int d, int e) {
        return tape.append(a, b, c, d, e);
    }

    public boolean end(int n) {
        return tape.cut(n);
    }

    public int tablet(int k) {
        tape.split();
        if (!tablets.has(k) || !draft.read()) {
            return NONE;
        }
        tablets.keep(k, draft, now);
        return draft.lines;
    }

    public int rules() {
        tape.split();
        return rules.read() ? rules.lines() : NONE;
    }

    public int fault(int what) {
        return tape.faultOf(what);
    }

    public int line(int k, int i, int what) {
        return tablets.lineOf(k, i, what);
    }

    public long stock(int g, int year, int what) {
        if (!isGood(g) || !isYear(year) || !within(what, 0, 1)) {
            return NO_STOCK;
        }
        return tablets.stockOf(g, year, what == 0);
    }

    public boolean weight(int kind, int v) {
        return balls.setWeight(kind, v);
    }

    public boolean mark(int ball, int kind, int n) {
        return balls.setMark(ball, kind, n);
    }

    public boolean tell(int ball, int what, int v) {
        return balls.setTold(ball, what, v);
    }

    public int ball(int ball, int what) {
        return balls.answer(ball, what);
    }

    public int seal() {
        return sealings.add();
    }

    public boolean over(int p, int q) {
        return sealings.lay(p, q);
    }

    public int order(int what) {
        return sealings.answer(what);
    }

    public int ahead(int p, int q) {
        return sealings.compare(p, q);
    }

    public int fragment(int hand) {
        return fragments.add(hand);
    }

    public boolean edge(int f, boolean right, int i, int v) {
        return fragments.setEdge(f, right, i, v);
    }

    public int row(int set, int what) {
        return fragments.answer(set, what);
    }

    public int person(int sort, int age, int mother) {
        return people.add(sort, age, mother);
    }

    public boolean works(int p, int days) {
        return people.setDays(p, days);
    }

    public int store(int g, int v) {
        return people.putInStore(g, v);
    }

    public int month(int m) {
        return people.runMonth(m);
    }

    public int ration(int p, int g, int m) {
        return people.rationOf(p, g, m);
    }

    public boolean book(int rate, int loss) {
        return flocks.setBook(rate, loss);
    }

    public int flock(int ewes, int wethers, int lambs) {
        return flocks.add(now, ewes, wethers, lambs);
    }

    public boolean found(int f, int year, int ewes, int wethers, int lambs) {
        return flocks.addFound(now, f, year, ewes, wethers, lambs);
    }

    public int flockAt(int f, int year, int k, int what) {
        return flocks.answer(f, year, k, what);
    }

    public boolean interest(int g, int v) {
        return loans.setInterest(g, v);
    }

    public int loan(int p, int g, int sum) {
        return people.has(p) ? loans.add(now, g, sum) : NONE;
    }

    public boolean pay(int loan, int year, int v) {
        return loans.addPayment(now, loan, year, v);
    }

    public boolean edict(int g) {
        return loans.addEdict(now, g);
    }

    public long owed(int loan, int year, int k) {
        return loans.owedAt(loan, year, k);
    }

    public int field(int a, int b, int c, int d, int e, int what) {
        if (!isSide(a) || !isSide(b) || !isSide(c) || !isSide(d)) {
            return NONE;
        }
        switch (what) {
            case 0:
                return (a + c) * (b + d) / 4;
            case 1:
                return quarter(threeSided(a, b, e), threeSided(c, d, e));
            case 2:
                return quarter(rootOfProduct(b + c + d - a, a + c + d - b, a + b + d - c, a + b + c - d), 0);
            default:
                return NONE;
        }
    }

    public long look(int what) {
        if (within(what, 10, 10 + GOODS - 1)) {
            return people.inStore(what - 10);
        }
        switch (what) {
            case 0:
                return now;
            case 1:
                return people.size();
            case 2:
                return sealings.size();
            case 3:
                return fragments.size();
            case 4:
                return flocks.size();
            case 5:
                return loans.size();
            case 6:
                return tablets.ofAYear();
            case 7:
                return people.allShort();
            case 8:
                return rules.lines();
            case 9:
                return balls.openedOnes();
            default:
                return NONE;
        }
    }

    private static boolean within(int v, int least, int greatest) {
        return v >= least && v <= greatest;
    }

    private static boolean isGood(int g) {
        return within(g, 0, GOODS - 1);
    }

    private static boolean isYear(int year) {
        return within(year, 0, LAST_YEAR);
    }

    private static boolean isSide(int side) {
        return within(side, 1, LONGEST_SIDE);
    }

    private static int quarter(long one, long other) {
        return one < 0 || other < 0 ? NONE : (int) ((one + other) / 4);
    }

    // The diagonal may be any int, so that the sums are kept as longs.
    private static long threeSided(long a, long b, long e) {
        return rootOfProduct(a + b + e, b + e - a, a + e - b, a + b - e);
    }

    private static long rootOfProduct(long p, long q, long r, long s) {
        return p < 1 || q < 1 || r < 1 || s < 1 ? NONE : root(p * q * r * s);
    }

    // The root of four sides' product stays far below 2 to the 31, so that no square here wraps.
    private static long root(long square) {
        long root = 0;
        for (long bit = 1L << 30; bit > 0; bit >>= 1) {
            long more = root + bit;
            if (more * more <= square) {
                root = more;
            }
        }
        return root;
    }

    /** The SYSTEMS, and by which of them each GOOD goes. */
    private static final class Numbers {
        private static final int SYSTEMS = 4;
        private static final int FEWEST_SIGNS = 2;
        private static final int MOST_SIGNS = 6;
        private static final int LEAST_STEP = 2;
        private static final int GREATEST_STEP = 60;
        private static final int GREATEST_WORTH = 99999;
        private static final int MOST_OF_GREATEST = 99;
        private static final int GREATEST_WRITTEN = 9999999;

        private final int[] signs = {5, 5, 5, 5};
        private final int[] steps = new int[SYSTEMS * MOST_SIGNS];
        private final int[] systems = new int[GOODS];

        Numbers() {
            for (int system = 0; system < SYSTEMS; system++) {
                steps[slot(system, 0)] = 10;
                steps[slot(system, 1)] = 6;
                steps[slot(system, 2)] = 10;
                steps[slot(system, 3)] = 6;
            }
        }

        private static int slot(int system, int i) {
            return system * MOST_SIGNS + i;
        }

        private static boolean isSystem(int system) {
            return within(system, 0, SYSTEMS - 1);
        }

        boolean setStep(int system, int i, int step) {
            if (!isSystem(system)) {
                return false;
            }
            if (step == 0) {
                return dropSign(system, i);
            }
            int behindLast = signs[system] - 1;
            if (!within(step, LEAST_STEP, GREATEST_STEP) || !within(i, 0, Math.min(behindLast, MOST_SIGNS - 2))
                    || !staysSmall(system, i, step)) {
                return false;
            }
            steps[slot(system, i)] = step;
            signs[system] = Math.max(signs[system], i + 2);
            return true;
        }

        private boolean dropSign(int system, int i) {
            if (signs[system] <= FEWEST_SIGNS || i != signs[system] - 2) {
                return false;
            }
            signs[system]--;
            return true;
        }

        // The greatest SIGN is worth the product of all STEPS.
        private boolean staysSmall(int system, int i, int step) {
            int last = Math.max(signs[system] - 2, i);
            int worth = 1;
            for (int j = 0; j <= last; j++) {
                worth *= j == i ? step : steps[slot(system, j)];
                if (worth > GREATEST_WORTH) {
                    return false;
                }
            }
            return true;
        }

        boolean setSystem(int g, int system) {
            if (!isGood(g) || !isSystem(system)) {
                return false;
            }
            systems[g] = system;
            return true;
        }

        int systemOf(int g) {
            return isGood(g) ? systems[g] : 0;
        }

        boolean hasSign(int system, int i) {
            return system >= 0 && system < SYSTEMS && i >= 0 && i < signs[system];
        }

        int worthOf(int system, int i) {
            int worth = 1;
            if (hasSign(system, i)) {
                for (int j = 0; j < i; j++) {
                    worth *= steps[slot(system, j)];
                }
            }
            return worth;
        }

        int mostOf(int system, int i) {
            return hasSign(system, i) && i < signs[system] - 1 ? steps[slot(system, i)] - 1 : MOST_OF_GREATEST;
        }

        int countIn(int system, int v, int i) {
            if (!hasSign(system, i) || !within(v, 0, GREATEST_WRITTEN)) {
                return NONE;
            }
            int left = v;
            for (int j = signs[system] - 1; j > i; j--) {
                int worth = worthOf(system, j);
                left = worth > 0 ? left % worth : left;
            }
            int worth = worthOf(system, i);
            return worth > 0 ? left / worth : NONE;
        }
    }

    /** The TAPE, its TOKENS once it is read, and the FAULT that the reading met. */
    private static final class Tape {
        static final int CANT_STAND = 1;
        static final int NOT_ALLOWED = 2;
        static final int TOO_MANY = 3;

        // Kinds of TOKENS; ; ? + and their like are their own kind by their character.
        static final int END = 0;
        static final int NO_TOKEN = 1;
        static final int NUMBER = 2;
        static final int SIGN = 3;
        static final int IN = 128;
        static final int OUT = 129;
        static final int SUM = 130;
        static final int GOOD = 131;
        static final int LOST = 132;
        static final int GIVE = 133;
        static final int WHEN = 134;
        static final int OR = 135;
        static final int AND = 136;
        static final int NOT = 137;
        static final int SORT = 138;
        static final int MONTH = 142;

        static final int ROOM = 800;
        private static final int ONE_FEED = 20;
        private static final int MOST_DIGITS = 4;
        private static final int FIRST_WORD = 128;
        // In the order of the kinds from FIRST_WORD on, a blank behind each.
        private static final String WORDS = "in out sum good lost give when or and not sort age days kids month ";
        private static final String SINGLES = ";?+-*/()<=>";

        private final char[] text = new char[ROOM];
        private int length = 0;
        private final int[] kinds = new int[ROOM + 1];
        private final int[] values = new int[ROOM + 1];
        private final int[] places = new int[ROOM + 1];
        private int tokens = 0;
        private int at = 0;
        private int fault = 0;
        private int faultPlace = NONE;

        int append(int a, int b, int c, int d, int e) {
            if (length + ONE_FEED > ROOM) {
                return NONE;
            }
            appendNumber(a);
            appendNumber(b);
            appendNumber(c);
            appendNumber(d);
            appendNumber(e);
            return length;
        }

        private void appendNumber(int number) {
            for (int shift = 24; shift >= 0 && length < ROOM; shift -= 8) {
                text[length] = (char) (number >>> shift & 255);
                length++;
            }
        }

        boolean cut(int n) {
            if (!within(n, 0, length)) {
                return false;
            }
            length = n;
            return true;
        }

        // Both readings share their TOKENS: a word of the other one can't stand anywhere, as no word can.
        void split() {
            tokens = 0;
            for (int place = 0; place < length; place++) {
                if (text[place] != ' ' && text[place] != '\n') {
                    int size = sizeFrom(place);
                    addToken(kindOf(place, size), valueOf(place, size), place);
                    place += size - 1;
                }
            }
            addToken(END, 0, length);
            length = 0;
            at = 0;
            fault = 0;
            faultPlace = NONE;
        }

        private void addToken(int kind, int value, int place) {
            if (tokens < kinds.length) {
                kinds[tokens] = kind;
                values[tokens] = value;
                places[tokens] = place;
                tokens++;
            }
        }

        private int sizeFrom(int place) {
            boolean letters = isLetter(text[place]);
            boolean digits = isDigit(text[place]);
            int size = 1;
            if (letters || digits) {
                while (place + size < length && (letters ? isLetter(text[place + size]) : isDigit(text[place + size]))) {
                    size++;
                }
            }
            return size;
        }

        private int kindOf(int place, int size) {
            char first = text[place];
            if (isDigit(first)) {
                return size <= MOST_DIGITS ? NUMBER : NO_TOKEN;
            }
            if (isLetter(first)) {
                return size == 1 && first >= 'a' && first <= 'f' ? SIGN : wordAt(place, size);
            }
            return SINGLES.indexOf(first) >= 0 ? first : NO_TOKEN;
        }

        private int valueOf(int place, int size) {
            if (!isDigit(text[place])) {
                return text[place] - 'a';
            }
            int value = 0;
            for (int i = 0; i < size && i < MOST_DIGITS; i++) {
                value = value * 10 + (text[place + i] - '0');
            }
            return value;
        }

        private int wordAt(int place, int size) {
            int kind = FIRST_WORD;
            int from = 0;
            for (int i = 0; i < WORDS.length(); i++) {
                if (WORDS.charAt(i) == ' ') {
                    if (i - from == size && standsAt(place, from, size)) {
                        return kind;
                    }
                    kind++;
                    from = i + 1;
                }
            }
            return NO_TOKEN;
        }

        private boolean standsAt(int place, int from, int size) {
            for (int i = 0; i < size; i++) {
                if (text[place + i] != WORDS.charAt(from + i)) {
                    return false;
                }
            }
            return true;
        }

        private static boolean isLetter(char c) {
            return c >= 'a' && c <= 'z' || c >= 'A' && c <= 'Z';
        }

        private static boolean isDigit(char c) {
            return c >= '0' && c <= '9';
        }

        int kind() {
            return kinds[at];
        }

        int value() {
            return values[at];
        }

        int signBehind() {
            return at + 1 < tokens && kinds[at + 1] == SIGN ? values[at + 1] : NONE;
        }

        // The end stays the TOKEN in hand however often one moves on.
        void move() {
            if (at + 1 < tokens) {
                at++;
            }
        }

        boolean take(int kind) {
            if (kinds[at] != kind) {
                return fail(CANT_STAND);
            }
            move();
            return true;
        }

        boolean fail(int which) {
            fault = which;
            faultPlace = places[at];
            return false;
        }

        int faultOf(int what) {
            return what == 0 ? fault : what == 1 ? faultPlace : NONE;
        }
    }

    /** A TABLET while it is read: its LINES, and what each BLOCK (named by its first LINE) has lost. */
    private static final class Draft {
        static final int MOST_LINES = 24;
        static final int IN = 0;
        static final int SUM = 2;
        private static final int MARKS = 2;
        private static final int MOST_LOST = 99999;
        private static final int MOST_FILLS = 999999999;

        private final Tape tape;
        private final Numbers numbers;
        private int lines = 0;
        private final int[] sorts = new int[MOST_LINES];
        private final int[] goods = new int[MOST_LINES];
        private final int[] bases = new int[MOST_LINES];
        private final int[] least = new int[MOST_LINES];
        private final int[] greatest = new int[MOST_LINES];
        private final int[] blocks = new int[MOST_LINES];
        private final int[] openBlock = new int[GOODS];
        private final boolean[] closed = new boolean[MOST_LINES];
        private final int[] totals = new int[MOST_LINES];
        private final int[] fills = new int[MOST_LINES];
        private final int[] lostLine = new int[MOST_LINES];
        private final int[] marks = new int[MOST_LINES];
        private final int[] markLine = new int[MARKS * MOST_LINES];
        private final int[] markWorth = new int[MARKS * MOST_LINES];
        private final int[] markMost = new int[MARKS * MOST_LINES];

        Draft(Tape tape, Numbers numbers) {
            this.tape = tape;
            this.numbers = numbers;
        }

        boolean read() {
            lines = 0;
            for (int g = 0; g < GOODS; g++) {
                openBlock[g] = NONE;
            }
            for (int i = 0; i <= MOST_LINES && tape.kind() != Tape.END; i++) {
                if (!readLine()) {
                    return false;
                }
            }
            for (int line = 0; line < lines; line++) {
                if (blocks[line] == line) {
                    solve(line);
                }
            }
            return true;
        }

        private boolean readLine() {
            int kind = tape.kind();
            if (kind != Tape.IN && kind != Tape.OUT && kind != Tape.SUM) {
                return tape.fail(Tape.CANT_STAND);
            }
            if (lines >= MOST_LINES) {
                return tape.fail(Tape.TOO_MANY);
            }
            tape.move();
            if (!tape.take(Tape.GOOD)) {
                return false;
            }
            int good = tape.value();
            if (tape.kind() != Tape.NUMBER) {
                return tape.fail(Tape.CANT_STAND);
            }
            if (!isGood(good)) {
                return tape.fail(Tape.NOT_ALLOWED);
            }
            tape.move();
            beginLine(kind - Tape.IN, good);
            if (!readNumeral(lines, numbers.systemOf(good)) || !tape.take(';')) {
                return false;
            }
            endLine();
            return true;
        }

        private void beginLine(int sort, int good) {
            sorts[lines] = sort;
            goods[lines] = good;
            bases[lines] = 0;
            if (openBlock[good] == NONE) {
                openBlock[good] = lines;
                closed[lines] = false;
                totals[lines] = 0;
                lostLine[lines] = NONE;
                marks[lines] = 0;
                for (int mark = MARKS * lines; mark < MARKS * lines + MARKS; mark++) {
                    markLine[mark] = NONE;
                    markWorth[mark] = 0;
                    markMost[mark] = 0;
                }
            }
            blocks[lines] = openBlock[good];
        }

        private void endLine() {
            int block = blocks[lines];
            totals[block] += signed(lines, bases[lines]);
            if (sorts[lines] == SUM) {
                closed[block] = true;
                openBlock[goods[lines]] = NONE;
            }
            lines++;
        }

        // A BLOCK closes where all that came in, less what went out and less the sum, is 0.
        private int signed(int line, int v) {
            return sorts[line] == IN ? v : -v;
        }

        private boolean readNumeral(int line, int system) {
            if (tape.kind() == Tape.LOST) {
                return readLost(line);
            }
            int signAhead = Numbers.MOST_SIGNS;
            // SIGNS get lesser from one to the next, so that one more than there are can't pass.
            for (int i = 0; i <= Numbers.MOST_SIGNS; i++) {
                if (i > 0 && tape.kind() == ';') {
                    return true;
                }
                if (!readCount(line, system, signAhead)) {
                    return false;
                }
                signAhead = tape.value();
                tape.move();
            }
            return true;
        }

        private boolean readLost(int line) {
            int block = blocks[line];
            if (lostLine[block] != NONE) {
                return tape.fail(Tape.TOO_MANY);
            }
            lostLine[block] = line;
            tape.move();
            return true;
        }

        // Leaves the SIGN in hand.
        private boolean readCount(int line, int system, int signAhead) {
            int count = tape.value();
            int sign = tape.signBehind();
            boolean isMark = tape.kind() == '?';
            if (!isMark && tape.kind() != Tape.NUMBER) {
                return tape.fail(Tape.CANT_STAND);
            }
            if (isMark && marks[blocks[line]] >= MARKS) {
                return tape.fail(Tape.TOO_MANY);
            }
            // A SIGN that can't be there is a FAULT itself, and no COUNT is held against it.
            boolean signCanBe = numbers.hasSign(system, sign) && sign < signAhead;
            if (!isMark && signCanBe && count > numbers.mostOf(system, sign)) {
                return tape.fail(Tape.NOT_ALLOWED);
            }
            tape.move();
            if (sign == NONE) {
                return tape.fail(Tape.CANT_STAND);
            }
            if (!signCanBe) {
                return tape.fail(Tape.NOT_ALLOWED);
            }
            int worth = numbers.worthOf(system, sign);
            if (isMark) {
                addMark(line, worth, numbers.mostOf(system, sign));
            } else {
                bases[line] += count * worth;
            }
            return true;
        }

        private void addMark(int line, int worth, int most) {
            int block = blocks[line];
            int mark = MARKS * block + marks[block];
            markLine[mark] = line;
            markWorth[mark] = worth;
            markMost[mark] = most;
            marks[block]++;
        }

        // At most 100 times 100 FILLS are tried: what is lost follows from the two marks in a closed BLOCK.
        private void solve(int block) {
            int one = MARKS * block;
            int other = one + 1;
            openSpans(block);
            long count = 0;
            for (int x = 0; x <= markMost[one]; x++) {
                for (int y = 0; y <= markMost[other]; y++) {
                    int from = 0;
                    int to = lostLine[block] == NONE ? 0 : MOST_LOST;
                    if (closed[block]) {
                        int due = dueOfLost(block, x, y);
                        from = Math.max(from, due);
                        to = Math.min(to, due);
                    }
                    if (from <= to) {
                        count += to - from + 1;
                        widen(lostLine[block], from, to);
                        widenMarked(markLine[one], block, x, y);
                        widenMarked(markLine[other], block, x, y);
                    }
                }
            }
            fills[block] = (int) Math.min(count, MOST_FILLS);
            closeSpans(block);
        }

        // Without a lost one it is what the BLOCK fails by: 0 alone is a FILL then.
        private int dueOfLost(int block, int x, int y) {
            int rest = totals[block] + markedBy(MARKS * block, x) + markedBy(MARKS * block + 1, y);
            return lostLine[block] == NONE ? rest : -signed(lostLine[block], rest);
        }

        private int markedBy(int mark, int v) {
            return markLine[mark] == NONE ? 0 : signed(markLine[mark], markWorth[mark] * v);
        }

        private void widenMarked(int line, int block, int x, int y) {
            if (line != NONE) {
                int one = MARKS * block;
                int v = bases[line];
                v += markLine[one] == line ? markWorth[one] * x : 0;
                v += markLine[one + 1] == line ? markWorth[one + 1] * y : 0;
                widen(line, v, v);
            }
        }

        private void widen(int line, int from, int to) {
            if (line != NONE) {
                least[line] = Math.min(least[line], from);
                greatest[line] = Math.max(greatest[line], to);
            }
        }

        private void openSpans(int block) {
            for (int line = block; line < lines; line++) {
                if (blocks[line] == block) {
                    boolean known = line != lostLine[block] && line != markLine[MARKS * block]
                            && line != markLine[MARKS * block + 1];
                    least[line] = known ? bases[line] : GREATEST_INT;
                    greatest[line] = known ? bases[line] : NONE;
                }
            }
        }

        private void closeSpans(int block) {
            for (int line = block; line < lines && fills[block] == 0; line++) {
                if (blocks[line] == block) {
                    least[line] = NONE;
                    greatest[line] = NONE;
                }
            }
        }
    }

    /** The TABLETS that were read: of each LINE what the answers need. */
    private static final class Tablets {
        private static final int TABLETS = 12;
        private static final int LINES = TABLETS * Draft.MOST_LINES;

        private final int[] years = new int[TABLETS];
        private final int[] sizes = new int[TABLETS];
        private final int[] sorts = new int[LINES];
        private final int[] goods = new int[LINES];
        private final int[] least = new int[LINES];
        private final int[] greatest = new int[LINES];
        private final int[] fills = new int[LINES];

        Tablets() {
            for (int k = 0; k < TABLETS; k++) {
                years[k] = NONE;
            }
        }

        boolean has(int k) {
            return within(k, 0, TABLETS - 1);
        }

        void keep(int k, Draft draft, int now) {
            if (has(k)) {
                years[k] = now;
                sizes[k] = draft.lines;
                for (int i = 0; i < draft.lines; i++) {
                    int line = k * Draft.MOST_LINES + i;
                    sorts[line] = draft.sorts[i];
                    goods[line] = draft.goods[i];
                    least[line] = draft.least[i];
                    greatest[line] = draft.greatest[i];
                    fills[line] = draft.fills[draft.blocks[i]];
                }
            }
        }

        int lineOf(int k, int i, int what) {
            if (!has(k) || !within(i, 0, sizes[k] - 1)) {
                return NONE;
            }
            int line = k * Draft.MOST_LINES + i;
            switch (what) {
                case 0:
                    return sorts[line];
                case 1:
                    return goods[line];
                case 2:
                    return least[line];
                case 3:
                    return greatest[line];
                case 4:
                    return fills[line];
                case 5:
                    return years[k];
                default:
                    return NONE;
            }
        }

        long stockOf(int g, int year, boolean leastOfIt) {
            long stock = 0;
            for (int k = 0; k < TABLETS; k++) {
                for (int i = 0; i < sizes[k] && years[k] <= year; i++) {
                    int line = k * Draft.MOST_LINES + i;
                    boolean counts = goods[line] == g && sorts[line] != Draft.SUM && fills[line] > 0;
                    if (counts && sorts[line] == Draft.IN) {
                        stock += leastOfIt ? least[line] : greatest[line];
                    } else if (counts) {
                        stock -= leastOfIt ? greatest[line] : least[line];
                    }
                }
            }
            return stock;
        }

        int ofAYear() {
            int count = 0;
            for (int k = 0; k < TABLETS; k++) {
                count += years[k] == NONE ? 0 : 1;
            }
            return count;
        }
    }

    /** The BALLS, their MARKS, and what was told of them. */
    private static final class Balls {
        private static final int BALLS = 8;
        private static final int KINDS = 5;
        private static final int LAST_KIND = KINDS - 1;
        private static final int MOST = 9;
        private static final int MOST_RATTLED = 45;
        private static final int MOST_WEIGHED = 900;
        private static final int GREATEST_WEIGHT = 20;
        private static final int ALL_BUT_LAST = 10000;

        private final int[] weights = {1, 1, 1, 1, 1};
        private final int[] marks = new int[BALLS * KINDS];
        private final int[] inside = new int[BALLS * KINDS];
        private final int[] rattled = new int[BALLS];
        private final int[] weighed = new int[BALLS];
        private final boolean[] opened = new boolean[BALLS];
        // What may be in the BALL that was asked for last.
        private int ways = 0;
        private int lies = NONE;
        private final int[] least = new int[KINDS];
        private final int[] greatest = new int[KINDS];
        private final int[] trial = new int[KINDS];

        Balls() {
            for (int ball = 0; ball < BALLS; ball++) {
                rattled[ball] = NONE;
                weighed[ball] = NONE;
            }
        }

        private static boolean isBall(int ball) {
            return within(ball, 0, BALLS - 1);
        }

        private static boolean isKind(int kind) {
            return within(kind, 0, KINDS - 1);
        }

        boolean setWeight(int kind, int v) {
            if (!isKind(kind) || !within(v, 1, GREATEST_WEIGHT)) {
                return false;
            }
            weights[kind] = v;
            return true;
        }

        boolean setMark(int ball, int kind, int n) {
            if (!isBall(ball) || !isKind(kind) || !within(n, 0, MOST)) {
                return false;
            }
            marks[ball * KINDS + kind] = n;
            return true;
        }

        boolean setTold(int ball, int what, int v) {
            if (!isBall(ball)) {
                return false;
            }
            if (what == 0 && within(v, NONE, MOST_RATTLED)) {
                rattled[ball] = v;
                return true;
            }
            if (what == 1 && within(v, NONE, MOST_WEIGHED)) {
                weighed[ball] = v;
                return true;
            }
            if (within(what, 10, 10 + LAST_KIND) && within(v, 0, MOST)) {
                inside[ball * KINDS + what - 10] = v;
                opened[ball] = true;
                return true;
            }
            return false;
        }

        int answer(int ball, int what) {
            if (!isBall(ball)) {
                return NONE;
            }
            if (what == 0 || what == 1) {
                survey(ball);
                return what == 0 ? ways : lies;
            }
            if (within(what, 10, 10 + LAST_KIND)) {
                survey(ball);
                return ways == 0 ? NONE : least[what - 10];
            }
            if (within(what, 20, 20 + LAST_KIND)) {
                survey(ball);
                return ways == 0 ? NONE : greatest[what - 20];
            }
            return NONE;
        }

        private void survey(int ball) {
            ways = 0;
            lies = NONE;
            for (int kind = 0; kind < KINDS; kind++) {
                least[kind] = MOST;
                greatest[kind] = 0;
            }
            if (opened[ball]) {
                for (int kind = 0; kind < KINDS; kind++) {
                    trial[kind] = inside[ball * KINDS + kind];
                }
                admit(ball, trial[LAST_KIND], trial[LAST_KIND]);
                return;
            }
            for (int i = 0; i < ALL_BUT_LAST; i++) {
                trial[0] = i / 1000;
                trial[1] = i / 100 % 10;
                trial[2] = i / 10 % 10;
                trial[3] = i % 10;
                tryLastKind(ball);
            }
        }

        // What the other KINDS leave for the last one is one number, if anything was told.
        private void tryLastKind(int ball) {
            int from = 0;
            int to = MOST;
            if (rattled[ball] != NONE) {
                int left = rattled[ball];
                for (int kind = 0; kind < LAST_KIND; kind++) {
                    left -= trial[kind];
                }
                from = Math.max(from, left);
                to = Math.min(to, left);
            }
            if (weighed[ball] != NONE) {
                int left = weighed[ball];
                for (int kind = 0; kind < LAST_KIND; kind++) {
                    left -= trial[kind] * weights[kind];
                }
                int each = Math.max(weights[LAST_KIND], 1);
                if (left % each != 0) {
                    return;
                }
                from = Math.max(from, left / each);
                to = Math.min(to, left / each);
            }
            if (from <= to) {
                admit(ball, from, to);
            }
        }

        private void admit(int ball, int from, int to) {
            int lied = 0;
            for (int kind = 0; kind < LAST_KIND; kind++) {
                lied += Math.abs(marks[ball * KINDS + kind] - trial[kind]);
                least[kind] = Math.min(least[kind], trial[kind]);
                greatest[kind] = Math.max(greatest[kind], trial[kind]);
            }
            int marked = marks[ball * KINDS + LAST_KIND];
            lied += Math.max(0, Math.max(from - marked, marked - to));
            least[LAST_KIND] = Math.min(least[LAST_KIND], from);
            greatest[LAST_KIND] = Math.max(greatest[LAST_KIND], to);
            lies = ways == 0 ? lied : Math.min(lies, lied);
            ways += to - from + 1;
        }

        int openedOnes() {
            int count = 0;
            for (int ball = 0; ball < BALLS; ball++) {
                count += opened[ball] ? 1 : 0;
            }
            return count;
        }
    }

    /** The SEALINGS, as sets of those that each lies OVER (a SEALING p counts 2 to the p). */
    private static final class Sealings {
        private static final int MOST = 10;

        private int count = 0;
        private final int[] under = new int[MOST];
        private final int[] orders = new int[1 << MOST];
        private final int[] first = new int[MOST];
        private final int[] ring = new int[MOST];
        private final int[] leadsBack = new int[MOST + 1];

        private boolean isSealing(int p) {
            return within(p, 0, count - 1);
        }

        int size() {
            return count;
        }

        int add() {
            if (count >= MOST) {
                return NONE;
            }
            count++;
            return count - 1;
        }

        boolean lay(int p, int q) {
            if (!isSealing(p) || !isSealing(q) || p == q || (under[p] >> q & 1) != 0) {
                return false;
            }
            under[p] |= 1 << q;
            return true;
        }

        int answer(int what) {
            if (what == 0) {
                return countOrders();
            }
            if (within(what, 10, 10 + count - 1)) {
                return findFirst() ? first[what - 10] : NONE;
            }
            if (within(what, 20, 20 + MOST) && !findFirst()) {
                int length = findRing();
                if (what == 20) {
                    return length;
                }
                return what - 21 < length ? ring[what - 21] : NONE;
            }
            return NONE;
        }

        // orders[set]: in how many ways just these were the first ones to be rolled.
        private int countOrders() {
            int all = 1 << count;
            orders[0] = 1;
            for (int set = 1; set < all; set++) {
                orders[set] = 0;
                for (int p = 0; p < count; p++) {
                    int others = set & ~(1 << p);
                    if (others != set && (under[p] & ~others) == 0) {
                        orders[set] += orders[others];
                    }
                }
            }
            return orders[all - 1];
        }

        // Taking the least one that may come next never ends before its time, unless there is no ORDER.
        private boolean findFirst() {
            int rolled = 0;
            for (int i = 0; i < count; i++) {
                int next = 0;
                while (next < count && ((rolled >> next & 1) != 0 || (under[next] & ~rolled) != 0)) {
                    next++;
                }
                if (next == count) {
                    return false;
                }
                first[i] = next;
                rolled |= 1 << next;
            }
            return true;
        }

        // Lengths are tried from the least on, so that no way back of that length meets itself.
        private int findRing() {
            for (int length = 2; length <= count; length++) {
                for (int start = 0; start < count; start++) {
                    findWaysBack(start, length);
                    if ((leadsBack[length] >> start & 1) != 0) {
                        walkRing(start, length);
                        return length;
                    }
                }
            }
            return 0;
        }

        // leadsBack[i]: from which one comes to the start by going i times to one that lies under.
        private void findWaysBack(int start, int length) {
            leadsBack[0] = 1 << start;
            for (int i = 1; i <= length; i++) {
                leadsBack[i] = 0;
                for (int p = 0; p < count; p++) {
                    if ((under[p] & leadsBack[i - 1]) != 0) {
                        leadsBack[i] |= 1 << p;
                    }
                }
            }
        }

        private void walkRing(int start, int length) {
            ring[0] = start;
            for (int i = 1; i < length; i++) {
                int next = Integer.numberOfTrailingZeros(under[ring[i - 1]] & leadsBack[length - i]);
                ring[i] = Math.min(next, count - 1);
            }
        }

        int compare(int p, int q) {
            if (!isSealing(p) || !isSealing(q) || p == q || !findFirst()) {
                return NONE;
            }
            if ((allUnder(q) >> p & 1) != 0) {
                return 1;
            }
            return (allUnder(p) >> q & 1) != 0 ? 0 : 2;
        }

        private int allUnder(int p) {
            int all = under[p];
            for (int i = 0; i < count; i++) {
                for (int q = 0; q < count; q++) {
                    if ((all >> q & 1) != 0) {
                        all |= under[q];
                    }
                }
            }
            return all;
        }
    }

    /** The FRAGMENTS, and the ROWS of sets of them. */
    private static final class Fragments {
        private static final int MOST = 8;
        private static final int EDGE = 5;
        private static final int HANDS = 4;
        private static final int FARTHEST = 9;
        private static final int UNLIKE_HANDS = 15;

        private int count = 0;
        private final int[] hands = new int[MOST];
        private final int[] lefts = new int[MOST * EDGE];
        private final int[] rights = new int[MOST * EDGE];
        // By a set and the one of it that stands first: the least GAPS, and in how many orders.
        private final int[] gaps = new int[MOST << MOST];
        private final int[] ways = new int[MOST << MOST];

        int size() {
            return count;
        }

        int add(int hand) {
            if (count >= MOST || !within(hand, 0, HANDS - 1)) {
                return NONE;
            }
            hands[count] = hand;
            count++;
            return count - 1;
        }

        boolean setEdge(int f, boolean right, int i, int v) {
            if (!within(f, 0, count - 1) || !within(i, 0, EDGE - 1) || !within(v, -FARTHEST, FARTHEST)) {
                return false;
            }
            if (right) {
                rights[f * EDGE + i] = v;
            } else {
                lefts[f * EDGE + i] = v;
            }
            return true;
        }

        int answer(int set, int what) {
            int size = Integer.bitCount(set);
            if (!within(set, 0, (1 << count) - 1) || size < 2) {
                return NONE;
            }
            boolean asksPlace = within(what, 10, 10 + size - 1);
            if (what != 0 && what != 1 && !asksPlace) {
                return NONE;
            }
            for (int part = 1; part <= set; part++) {
                if ((part & ~set) == 0) {
                    arrange(part);
                }
            }
            int best = leastGaps(set);
            if (asksPlace) {
                return placeInRow(set, best, what - 10);
            }
            return what == 0 ? best : waysOf(set, best);
        }

        private void arrange(int set) {
            for (int f = 0; f < count; f++) {
                int rest = set & ~(1 << f);
                if (rest != set) {
                    int slot = set * MOST + f;
                    gaps[slot] = rest == 0 ? 0 : GREATEST_INT;
                    ways[slot] = rest == 0 ? 1 : 0;
                    for (int g = 0; g < count; g++) {
                        if ((rest >> g & 1) != 0) {
                            offer(slot, gapOf(f, g) + gaps[rest * MOST + g], ways[rest * MOST + g]);
                        }
                    }
                }
            }
        }

        private void offer(int slot, int gap, int inWays) {
            if (gap < gaps[slot]) {
                gaps[slot] = gap;
                ways[slot] = 0;
            }
            if (gap == gaps[slot]) {
                ways[slot] += inWays;
            }
        }

        private int gapOf(int f, int g) {
            int gap = hands[f] == hands[g] ? 0 : UNLIKE_HANDS;
            for (int i = 0; i < EDGE; i++) {
                gap += Math.abs(rights[f * EDGE + i] + lefts[g * EDGE + i]);
            }
            return gap;
        }

        private int leastGaps(int set) {
            int best = GREATEST_INT;
            for (int f = 0; f < count; f++) {
                if ((set >> f & 1) != 0) {
                    best = Math.min(best, gaps[set * MOST + f]);
                }
            }
            return best;
        }

        private int waysOf(int set, int best) {
            int all = 0;
            for (int f = 0; f < count; f++) {
                if ((set >> f & 1) != 0 && gaps[set * MOST + f] == best) {
                    all += ways[set * MOST + f];
                }
            }
            return all;
        }

        private int placeInRow(int set, int best, int place) {
            int rest = set;
            int due = best;
            int last = NONE;
            for (int i = 0; i <= place; i++) {
                last = nextInRow(rest, due, last);
                if (last == NONE) {
                    return NONE;
                }
                due = gaps[rest * MOST + last];
                rest &= ~(1 << last);
            }
            return last;
        }

        private int nextInRow(int rest, int due, int last) {
            for (int f = 0; f < count; f++) {
                if ((rest >> f & 1) != 0) {
                    int gap = last == NONE ? 0 : gapOf(last, f);
                    if (gap + gaps[rest * MOST + f] == due) {
                        return f;
                    }
                }
            }
            return NONE;
        }
    }

    /**
     * The RULES as they stand and as they are read. A text becomes code: what is 0 or more is a NUMBER,
     * what is below is the TOKEN (its kind with a minus) that works on the two last ones ahead of it,
     * so that E and B are reckoned without going through the text again.
     */
    private static final class Rules {
        private static final int MOST_GIVES = 16;
        private static final int MOST_OPEN = 8;
        private static final int MOST_GIVEN = 9999;
        // Each ( that is open holds back an or and an and; a comparison three more on its right.
        private static final int STACK = 64;

        private final Tape tape;
        private int gives = 0;
        private final int[] code = new int[Tape.ROOM];
        private final int[] goods = new int[MOST_GIVES];
        private final int[] whens = new int[MOST_GIVES];
        private final int[] ends = new int[MOST_GIVES];
        private int newGives = 0;
        private int newSize = 0;
        private final int[] newCode = new int[Tape.ROOM];
        private final int[] newGoods = new int[MOST_GIVES];
        private final int[] newWhens = new int[MOST_GIVES];
        private final int[] newEnds = new int[MOST_GIVES];
        private final int[] stack = new int[STACK];

        Rules(Tape tape) {
            this.tape = tape;
        }

        int lines() {
            return gives;
        }

        int goodOf(int give) {
            return within(give, 0, gives - 1) ? goods[give] : 0;
        }

        boolean read() {
            newGives = 0;
            newSize = 0;
            for (int i = 0; i <= MOST_GIVES && tape.kind() != Tape.END; i++) {
                if (!readGive()) {
                    return false;
                }
            }
            gives = newGives;
            System.arraycopy(newCode, 0, code, 0, newSize);
            System.arraycopy(newGoods, 0, goods, 0, gives);
            System.arraycopy(newWhens, 0, whens, 0, gives);
            System.arraycopy(newEnds, 0, ends, 0, gives);
            return true;
        }

        private boolean readGive() {
            if (tape.kind() != Tape.GIVE) {
                return tape.fail(Tape.CANT_STAND);
            }
            if (newGives >= MOST_GIVES) {
                return tape.fail(Tape.TOO_MANY);
            }
            tape.move();
            if (!readSum() || !tape.take(Tape.GOOD)) {
                return false;
            }
            if (tape.kind() != Tape.NUMBER) {
                return tape.fail(Tape.CANT_STAND);
            }
            if (!isGood(tape.value())) {
                return tape.fail(Tape.NOT_ALLOWED);
            }
            newGoods[newGives] = tape.value();
            newWhens[newGives] = newSize;
            tape.move();
            if (tape.kind() == Tape.WHEN) {
                tape.move();
                if (!readWhen(0)) {
                    return false;
                }
            }
            newEnds[newGives] = newSize;
            newGives++;
            return tape.take(';');
        }

        // B and A at once: an or waits until the ands behind it are through.
        private boolean readWhen(int open) {
            if (!readCondition(open)) {
                return false;
            }
            boolean orWaits = false;
            for (int i = 0; i < Tape.ROOM && (tape.kind() == Tape.OR || tape.kind() == Tape.AND); i++) {
                boolean isOr = tape.kind() == Tape.OR;
                tape.move();
                if (isOr && orWaits) {
                    write(-Tape.OR);
                }
                orWaits |= isOr;
                if (!readCondition(open)) {
                    return false;
                }
                if (!isOr) {
                    write(-Tape.AND);
                }
            }
            if (orWaits) {
                write(-Tape.OR);
            }
            return true;
        }

        private boolean readCondition(int open) {
            int kind = tape.kind();
            if (kind == Tape.NOT || kind == '(') {
                if (open >= MOST_OPEN) {
                    return tape.fail(Tape.TOO_MANY);
                }
                tape.move();
                if (kind == '(') {
                    return readWhen(open + 1) && tape.take(')');
                }
                if (!readCondition(open + 1)) {
                    return false;
                }
                write(-Tape.NOT);
                return true;
            }
            if (!readSum()) {
                return false;
            }
            int how = tape.kind();
            if (how != '<' && how != '=' && how != '>') {
                return tape.fail(Tape.CANT_STAND);
            }
            tape.move();
            if (!readSum()) {
                return false;
            }
            write(-how);
            return true;
        }

        // E and T at once: a + or - waits until the * and / behind it are through.
        private boolean readSum() {
            if (!readUnit()) {
                return false;
            }
            int waits = 0;
            for (int i = 0; i < Tape.ROOM; i++) {
                int kind = tape.kind();
                if (kind != '+' && kind != '-' && kind != '*' && kind != '/') {
                    break;
                }
                tape.move();
                boolean isSum = kind == '+' || kind == '-';
                if (isSum && waits != 0) {
                    write(-waits);
                }
                waits = isSum ? kind : waits;
                if (kind == '/' ? !readDivisor() : !readUnit()) {
                    return false;
                }
                if (!isSum) {
                    write(-kind);
                }
            }
            if (waits != 0) {
                write(-waits);
            }
            return true;
        }

        private boolean readUnit() {
            int kind = tape.kind();
            if (kind != Tape.NUMBER && !within(kind, Tape.SORT, Tape.MONTH)) {
                return tape.fail(Tape.CANT_STAND);
            }
            write(kind == Tape.NUMBER ? tape.value() : -kind);
            tape.move();
            return true;
        }

        private boolean readDivisor() {
            if (tape.kind() != Tape.NUMBER) {
                return tape.fail(Tape.CANT_STAND);
            }
            if (tape.value() == 0) {
                return tape.fail(Tape.NOT_ALLOWED);
            }
            write(tape.value());
            tape.move();
            return true;
        }

        // Never more than one for each TOKEN.
        private void write(int what) {
            if (newSize < newCode.length) {
                newCode[newSize] = what;
                newSize++;
            }
        }

        // facts: sort, age, days, kids, month, in the order of their TOKENS.
        int amountOf(int give, int[] facts) {
            if (!within(give, 0, gives - 1)) {
                return 0;
            }
            int start = give == 0 ? 0 : ends[give - 1];
            if (whens[give] < ends[give] && reckon(whens[give], ends[give], facts) == 0) {
                return 0;
            }
            return Math.max(0, Math.min(MOST_GIVEN, reckon(start, whens[give], facts)));
        }

        private int reckon(int from, int to, int[] facts) {
            int high = 0;
            for (int i = from; i < to && i < code.length; i++) {
                int what = code[i];
                int fact = -what - Tape.SORT;
                if (what == -Tape.NOT) {
                    if (high > 0) {
                        stack[high - 1] = 1 - stack[high - 1];
                    }
                } else if (what >= 0 || within(fact, 0, facts.length - 1)) {
                    if (high < STACK) {
                        stack[high] = what >= 0 ? what : facts[fact];
                        high++;
                    }
                } else if (high > 1) {
                    high--;
                    stack[high - 1] = joined(-what, stack[high - 1], stack[high]);
                }
            }
            return stack[0];
        }

        private static int joined(int how, int a, int b) {
            switch (how) {
                case '+':
                    return a + b;
                case '-':
                    return a - b;
                case '*':
                    return a * b;
                case '/':
                    return b == 0 ? 0 : a / b;
                case '<':
                    return a < b ? 1 : 0;
                case '=':
                    return a == b ? 1 : 0;
                case '>':
                    return a > b ? 1 : 0;
                case Tape.AND:
                    return a & b;
                default:
                    return a | b;
            }
        }
    }

    /** The PERSONS, the STORE that they are given from, and what was SHORT. */
    private static final class People {
        private static final int MOST = 32;
        private static final int SORTS = 4;
        private static final int OLDEST = 99;
        private static final int MOST_DAYS = 30;
        private static final int MONTHS = 12;
        private static final int MOST_STORED = 9999999;

        private final Rules rules;
        private int count = 0;
        private final int[] sorts = new int[MOST];
        private final int[] ages = new int[MOST];
        private final int[] days = new int[MOST];
        private final int[] kids = new int[MOST];
        private final int[] stored = new int[GOODS];
        private long allShort = 0;
        private final int[] facts = new int[5];

        People(Rules rules) {
            this.rules = rules;
        }

        boolean has(int p) {
            return within(p, 0, count - 1);
        }

        int size() {
            return count;
        }

        long allShort() {
            return allShort;
        }

        int inStore(int g) {
            return isGood(g) ? stored[g] : NONE;
        }

        int add(int sort, int age, int mother) {
            if (count >= MOST || !within(sort, 0, SORTS - 1) || !within(age, 0, OLDEST)) {
                return NONE;
            }
            if (mother != NONE && !has(mother)) {
                return NONE;
            }
            if (mother != NONE) {
                kids[mother]++;
            }
            sorts[count] = sort;
            ages[count] = age;
            count++;
            return count - 1;
        }

        boolean setDays(int p, int v) {
            if (!has(p) || !within(v, 0, MOST_DAYS)) {
                return false;
            }
            days[p] = v;
            return true;
        }

        int putInStore(int g, int v) {
            if (!isGood(g) || !within(v, 0, MOST_STORED - stored[g])) {
                return NONE;
            }
            stored[g] += v;
            return stored[g];
        }

        int runMonth(int m) {
            if (!within(m, 0, MONTHS - 1)) {
                return NONE;
            }
            int lacked = 0;
            for (int p = 0; p < count; p++) {
                learnFacts(p, m);
                for (int give = 0; give < rules.lines(); give++) {
                    int due = rules.amountOf(give, facts);
                    int good = rules.goodOf(give);
                    int given = Math.min(due, stored[good]);
                    stored[good] -= given;
                    lacked += due - given;
                }
            }
            for (int p = 0; p < count; p++) {
                days[p] = 0;
            }
            allShort += lacked;
            return lacked;
        }

        int rationOf(int p, int g, int m) {
            if (!has(p) || !isGood(g) || !within(m, 0, MONTHS - 1)) {
                return NONE;
            }
            learnFacts(p, m);
            int all = 0;
            for (int give = 0; give < rules.lines(); give++) {
                all += rules.goodOf(give) == g ? rules.amountOf(give, facts) : 0;
            }
            return all;
        }

        private void learnFacts(int p, int m) {
            facts[0] = sorts[p];
            facts[1] = ages[p];
            facts[2] = days[p];
            facts[3] = kids[p];
            facts[4] = m;
        }
    }

    /** The FLOCKS by the book, and what was FOUND of them. */
    private static final class Flocks {
        private static final int MOST = 6;
        private static final int PARTS = 3;
        private static final int MOST_TOLD = 9999;
        private static final int MOST_BOOKED = 9999999;
        private static final int MOST_FOUND = 100;
        private static final int GREATEST_RATE = 200;
        private static final int GREATEST_LOSS = 100;
        private static final int[] SHEKELS = {6, 5, 3};

        private int rate = 66;
        private int loss = 15;
        private int count = 0;
        private final int[] came = new int[MOST];
        private final int[] cameWith = new int[MOST * PARTS];
        private int finds = 0;
        private final int[] foundFlock = new int[MOST_FOUND];
        private final int[] foundYear = new int[MOST_FOUND];
        private final int[] foundTold = new int[MOST_FOUND];
        private final int[] foundParts = new int[MOST_FOUND * PARTS];
        // EWES, WETHERS, LAMBS in the YEAR that is being reckoned.
        private final int[] parts = new int[PARTS];

        private static boolean canBeTold(int ewes, int wethers, int lambs) {
            return within(ewes, 0, MOST_TOLD) && within(wethers, 0, MOST_TOLD) && within(lambs, 0, MOST_TOLD);
        }

        int size() {
            return count;
        }

        boolean setBook(int newRate, int newLoss) {
            if (!within(newRate, 0, GREATEST_RATE) || !within(newLoss, 0, GREATEST_LOSS)) {
                return false;
            }
            rate = newRate;
            loss = newLoss;
            return true;
        }

        int add(int now, int ewes, int wethers, int lambs) {
            if (count >= MOST || !canBeTold(ewes, wethers, lambs)) {
                return NONE;
            }
            came[count] = now;
            cameWith[count * PARTS] = ewes;
            cameWith[count * PARTS + 1] = wethers;
            cameWith[count * PARTS + 2] = lambs;
            count++;
            return count - 1;
        }

        boolean addFound(int now, int f, int year, int ewes, int wethers, int lambs) {
            if (!within(f, 0, count - 1) || finds >= MOST_FOUND || !canBeTold(ewes, wethers, lambs)) {
                return false;
            }
            if (year <= came[f] || year > now) {
                return false;
            }
            foundFlock[finds] = f;
            foundYear[finds] = year;
            foundTold[finds] = now;
            foundParts[finds * PARTS] = ewes;
            foundParts[finds * PARTS + 1] = wethers;
            foundParts[finds * PARTS + 2] = lambs;
            finds++;
            return true;
        }

        int answer(int f, int year, int k, int what) {
            if (!within(f, 0, count - 1) || !isYear(year) || !isYear(k) || !within(what, 0, PARTS)) {
                return NONE;
            }
            if (year < came[f]) {
                return NONE;
            }
            for (int i = 0; i < PARTS; i++) {
                parts[i] = cameWith[f * PARTS + i];
            }
            int arrears = 0;
            for (int y = came[f] + 1; y <= year; y++) {
                goByTheBook();
                arrears = takeFound(lastFound(f, y, k));
            }
            return what == PARTS ? arrears : parts[what];
        }

        // All at once: what they were a YEAR ahead counts for all three.
        private void goByTheBook() {
            int ewes = parts[0];
            int wethers = parts[1];
            int lambs = parts[2];
            parts[0] = booked((long) ewes + (lambs + 1) / 2 - hundredths(ewes, loss));
            parts[1] = booked((long) wethers + lambs / 2 - hundredths(wethers, loss));
            parts[2] = booked(hundredths(ewes, rate));
        }

        private static long hundredths(long v, int times) {
            return v * times / 100;
        }

        private static int booked(long v) {
            return (int) Math.min(v, MOST_BOOKED);
        }

        private int lastFound(int f, int year, int k) {
            for (int i = finds - 1; i >= 0; i--) {
                if (foundFlock[i] == f && foundYear[i] == year && foundTold[i] <= k) {
                    return i;
                }
            }
            return NONE;
        }

        private int takeFound(int find) {
            int arrears = 0;
            for (int i = 0; i < PARTS && find != NONE; i++) {
                int there = foundParts[find * PARTS + i];
                arrears += Math.max(0, parts[i] - there) * SHEKELS[i];
                parts[i] = there;
            }
            return arrears;
        }
    }

    /** The LOANS, their PAYMENTS, and the EDICTS. */
    private static final class Loans {
        private static final int MOST = 40;
        private static final int MOST_AT_ONCE = 99999;
        private static final int MOST_PAYMENTS = 200;
        private static final int GREATEST_INTEREST = 100;
        private static final int YEARS = LAST_YEAR + 1;
        private static final long MOST_OWED = 999999999999L;

        private final int[] interests = {33, 33, 33, 33, 33, 33, 33, 33};
        private final boolean[] edicts = new boolean[GOODS * YEARS];
        private int count = 0;
        private final int[] goods = new int[MOST];
        private final int[] sums = new int[MOST];
        private final int[] years = new int[MOST];
        private int payments = 0;
        private final int[] paidOn = new int[MOST_PAYMENTS];
        private final int[] paidIn = new int[MOST_PAYMENTS];
        private final int[] paidTold = new int[MOST_PAYMENTS];
        private final int[] paid = new int[MOST_PAYMENTS];

        int size() {
            return count;
        }

        boolean setInterest(int g, int v) {
            if (!isGood(g) || !within(v, 0, GREATEST_INTEREST)) {
                return false;
            }
            interests[g] = v;
            return true;
        }

        int add(int now, int g, int sum) {
            if (count >= MOST || !isGood(g) || !within(sum, 1, MOST_AT_ONCE)) {
                return NONE;
            }
            goods[count] = g;
            sums[count] = sum;
            years[count] = now;
            count++;
            return count - 1;
        }

        boolean addPayment(int now, int loan, int year, int v) {
            if (!within(loan, 0, count - 1) || payments >= MOST_PAYMENTS || !within(v, 1, MOST_AT_ONCE)
                    || !within(year, years[loan], now)) {
                return false;
            }
            paidOn[payments] = loan;
            paidIn[payments] = year;
            paidTold[payments] = now;
            paid[payments] = v;
            payments++;
            return true;
        }

        boolean addEdict(int now, int g) {
            if (!isGood(g) || !isYear(now) || edicts[g * YEARS + now]) {
                return false;
            }
            edicts[g * YEARS + now] = true;
            return true;
        }

        long owedAt(int loan, int year, int k) {
            if (!within(loan, 0, count - 1) || !isYear(year) || !isYear(k) || year < years[loan]) {
                return NONE;
            }
            int g = goods[loan];
            long owes = sums[loan];
            for (int y = years[loan] + 1; y <= year; y++) {
                owes = Math.max(0, owes - paidFor(loan, y - 1, k));
                owes = Math.min(MOST_OWED, owes + owes * interests[g] / 100);
                // An EDICT is told in its own YEAR, so that it is known from that YEAR on.
                if (y <= k && edicts[g * YEARS + y]) {
                    owes = 0;
                }
            }
            return owes;
        }

        private long paidFor(int loan, int year, int k) {
            long all = 0;
            for (int i = 0; i < payments; i++) {
                if (paidOn[i] == loan && paidIn[i] == year && paidTold[i] <= k) {
                    all += paid[i];
                }
            }
            return all;
        }
    }
}
