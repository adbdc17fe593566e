import java.util.ArrayList;
import java.util.List;
import java.util.regex.Matcher;
import java.util.regex.Pattern;

/** Promises 8 and 10 against a second reading of the grammar, on texts written by dice. */
public final class FaultTest {
    private static final Due.Dice DICE = new Due.Dice(5);
    private static final String[] ANY = {"in", "out", "sum", "good", "lost", "give", "zz", "a", "b", "c", "d", "e", "f",
        "0", "5", "6", "9", "10", "100", "12345", "?", ";", "+", "!"};
    // SYSTEM 0 stands as at first, SYSTEM 1 has a, b, c by STEPS 4, 7; GOOD 1 goes by SYSTEM 1.
    private static final int[][] STEPS = {{10, 6, 10, 6}, {4, 7}};

    public static void main(String[] args) {
        int[] met = new int[4];
        for (int run = 0; run < 4000; run++) {
            met[compare(written())]++;
        }
        for (int fault = 0; fault < 4; fault++) {
            Due.is("FAULT " + fault + " is met often: " + met[fault], met[fault] > 100, true);
        }
        Due.done();
    }

    private static int compare(String text) {
        ClayHouse x = new ClayHouse();
        x.step(1, 3, 0);
        x.step(1, 2, 0);
        x.step(1, 1, 7);
        x.step(1, 0, 4);
        x.good(1, 1);
        Reading reading = new Reading(text);
        if (reading.fault == 0) {
            Due.tablet(x, 0, text, reading.lines);
        } else {
            Due.tabletFault(x, 0, text, reading.fault, reading.place);
        }
        return reading.fault;
    }

    private static String written() {
        List<String> words = new ArrayList<>();
        int lines = DICE.below(12) == 0 ? DICE.from(23, 26) : DICE.from(1, 5);
        for (int i = 0; i < lines; i++) {
            int good = DICE.below(40) == 0 ? DICE.from(7, 9) : DICE.below(2);
            words.add(ANY[DICE.below(3)]);
            words.add("good");
            words.add(String.valueOf(good));
            if (DICE.below(8) == 0) {
                words.add("lost");
            } else {
                counts(words, lines > 20 ? 1 : DICE.from(1, 3), good == 1 ? 3 : 5);
            }
            words.add(";");
        }
        if (DICE.below(4) == 0) {
            words.set(DICE.below(words.size()), ANY[DICE.below(ANY.length)]);
        }
        if (DICE.below(8) == 0) {
            words.remove(DICE.below(words.size()));
        }
        StringBuilder text = new StringBuilder();
        for (String word : words) {
            text.append(word).append(DICE.below(8) == 0 ? "  " : DICE.below(8) == 0 ? "\n" : " ");
        }
        return text.substring(0, Math.min(text.length(), 800));
    }

    private static void counts(List<String> words, int many, int signs) {
        int sign = DICE.from(0, signs - 1);
        for (int i = 0; i < many && sign >= 0; i++) {
            words.add(DICE.below(6) == 0 ? "?" : String.valueOf(DICE.below(20) == 0 ? DICE.below(101) : DICE.below(4)));
            words.add(String.valueOf("abcdef".charAt(Math.min(5, DICE.below(25) == 0 ? sign + 1 : sign))));
            sign = DICE.below(25) == 0 ? DICE.below(6) : sign - DICE.from(1, 2);
        }
    }

    /** One reading of a text: each TOKEN by itself, looked at with what has been read ahead of it. */
    private static final class Reading {
        private static final Pattern TOKEN = Pattern.compile("[A-Za-z]+|[0-9]+|[^ \n]");
        private final List<String> tokens = new ArrayList<>();
        private final List<Integer> places = new ArrayList<>();
        private final int[] marks = new int[8];
        private final int[] lost = new int[8];
        private int at = 0;
        private int fault = 0;
        private int place = -1;
        private int lines = 0;

        Reading(String text) {
            Matcher found = TOKEN.matcher(text);
            while (found.find()) {
                tokens.add(found.group());
                places.add(found.start());
            }
            tokens.add("");
            places.add(text.length());
            while (fault == 0 && !tokens.get(at).isEmpty()) {
                line();
            }
        }

        private String next() {
            return tokens.get(at);
        }

        private boolean here(int which) {
            if (fault == 0) {
                fault = which;
                place = places.get(at);
            }
            return false;
        }

        private boolean must(String form) {
            if (!next().matches(form)) {
                return here(1);
            }
            at++;
            return true;
        }

        private boolean line() {
            String sort = next();
            if (sort.matches("in|out|sum") && lines == 24) {
                return here(3);
            }
            if (!must("in|out|sum") || !must("good")) {
                return false;
            }
            if (next().matches("[0-9]{1,4}") && Integer.parseInt(next()) > 7) {
                return here(2);
            }
            if (!must("[0-9]{1,4}")) {
                return false;
            }
            int good = Integer.parseInt(tokens.get(at - 1));
            if (!numeral(good) || !must(";")) {
                return false;
            }
            lines++;
            if (sort.equals("sum")) {
                marks[good] = 0;
                lost[good] = 0;
            }
            return true;
        }

        private boolean numeral(int good) {
            if (next().equals("lost")) {
                lost[good]++;
                return lost[good] > 1 ? here(3) : must("lost");
            }
            int[] steps = STEPS[good == 1 ? 1 : 0];
            int bound = steps.length + 1;
            do {
                if (!next().matches("[0-9]{1,4}|[?]")) {
                    return here(1);
                }
                String count = next();
                String behind = tokens.get(at + 1);
                int sign = behind.matches("[a-f]") ? behind.charAt(0) - 'a' : 99;
                if (count.equals("?")) {
                    marks[good]++;
                    if (marks[good] > 2) {
                        return here(3);
                    }
                } else if (sign < bound && Integer.parseInt(count) > (sign == steps.length ? 99 : steps[sign] - 1)) {
                    return here(2);
                }
                at++;
                if (sign == 99) {
                    return here(1);
                }
                if (sign >= bound) {
                    return here(2);
                }
                bound = sign;
                at++;
            } while (!next().equals(";"));
            return true;
        }
    }
}
