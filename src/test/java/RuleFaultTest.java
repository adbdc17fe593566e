import java.util.ArrayList;
import java.util.List;
import java.util.regex.Matcher;
import java.util.regex.Pattern;

/** Promises 9 and 10 against a second reading of the grammar, on RULES written by dice. */
public final class RuleFaultTest {
    private static final Due.Dice DICE = new Due.Dice(9);
    private static final String[] ANY = {"give", "good", "when", "or", "and", "not", "sort", "age", "days", "kids", "month",
        "lost", "in", "a", "zz", "0", "7", "8", "9999", "10000", ";", "+", "-", "*", "/", "(", ")", "<", "=", ">", "?", "!"};
    private static final String[] UNITS = {"sort", "age", "days", "kids", "month", "0", "1", "12", "9999", "0004"};

    public static void main(String[] args) {
        int[] met = new int[4];
        for (int run = 0; run < 4000; run++) {
            met[compare(new Writer().text())]++;
        }
        for (int fault = 0; fault < 4; fault++) {
            Due.is("FAULT " + fault + " is met often: " + met[fault], met[fault] > 100, true);
        }
        Due.done();
    }

    private static int compare(String text) {
        ClayHouse x = new ClayHouse();
        Reading reading = new Reading(text);
        if (reading.fault == 0) {
            Due.rules(x, text, reading.lines);
        } else {
            Due.rulesFault(x, text, reading.fault, reading.place);
        }
        return reading.fault;
    }

    /** Writes a text by the grammar, then may spoil it at one place or two. */
    private static final class Writer {
        private final List<String> words = new ArrayList<>();

        String text() {
            boolean many = DICE.below(10) == 0;
            int lines = many ? DICE.from(15, 18) : DICE.from(0, 4);
            for (int i = 0; i < lines; i++) {
                words.add("give");
                sum(many ? 1 : 3);
                words.add("good");
                words.add(String.valueOf(DICE.below(40) == 0 ? DICE.from(7, 9) : DICE.below(8)));
                if (!many && DICE.below(2) == 0) {
                    words.add("when");
                    either(0);
                }
                words.add(";");
            }
            spoil();
            StringBuilder text = new StringBuilder();
            for (String word : words) {
                text.append(word).append(DICE.below(8) == 0 ? "\n " : " ");
            }
            return text.substring(0, Math.min(text.length(), 800));
        }

        private void spoil() {
            if (!words.isEmpty() && DICE.below(4) == 0) {
                words.set(DICE.below(words.size()), ANY[DICE.below(ANY.length)]);
            }
            if (!words.isEmpty() && DICE.below(8) == 0) {
                words.remove(DICE.below(words.size()));
            }
            if (DICE.below(8) == 0) {
                words.add(DICE.below(words.size() + 1), ANY[DICE.below(ANY.length)]);
            }
        }

        private void sum(int most) {
            words.add(UNITS[DICE.below(UNITS.length)]);
            for (int i = DICE.below(most); i > 0; i--) {
                int how = DICE.below(4);
                words.add(String.valueOf("+-*/".charAt(how)));
                words.add(how < 3 ? UNITS[DICE.below(UNITS.length)] : DICE.below(20) == 0 ? "0" : "7");
            }
        }

        private void either(int open) {
            condition(open);
            while (DICE.below(4) == 0) {
                words.add(DICE.below(2) == 0 ? "or" : "and");
                condition(open);
            }
        }

        private void condition(int open) {
            int which = open < 10 ? DICE.below(open > 0 ? 6 : 4) : 0;
            if (which == 0 || which == 1 && open == 0) {
                sum(2);
                words.add(String.valueOf("<=>".charAt(DICE.below(3))));
                sum(2);
            } else if (which < 4) {
                words.add("not");
                condition(open + 1);
            } else {
                words.add("(");
                either(open + 1);
                words.add(")");
            }
        }
    }

    /** The first FAULT ends the reading at once, wherever it stands. */
    private static final class Found extends RuntimeException {
        private static final long serialVersionUID = 1L;
    }

    private static final class Reading {
        private static final Pattern TOKEN = Pattern.compile("[A-Za-z]+|[0-9]+|[^ \n]");
        private static final String NUMBER = "[0-9]{1,4}";
        private final List<String> tokens = new ArrayList<>();
        private final List<Integer> places = new ArrayList<>();
        private int at = 0;
        private int open = 0;
        private int fault = 0;
        private int place = -1;
        private int lines = 0;

        Reading(String text) {
            Matcher found = TOKEN.matcher(text);
            while (found.find()) {
                tokens.add(found.group());
                places.add(found.start());
            }
            tokens.add("");
            places.add(text.length());
            try {
                while (!next("")) {
                    give();
                }
            } catch (Found stop) {
                place = places.get(at);
            }
        }

        private boolean next(String form) {
            return tokens.get(at).matches(form);
        }

        private void here(int which) {
            fault = which;
            throw new Found();
        }

        private String must(String form) {
            if (!next(form)) {
                here(1);
            }
            at++;
            return tokens.get(at - 1);
        }

        private void give() {
            if (next("give") && lines == 16) {
                here(3);
            }
            must("give");
            sum();
            must("good");
            if (next(NUMBER) && Integer.parseInt(tokens.get(at)) > 7) {
                here(2);
            }
            must(NUMBER);
            if (next("when")) {
                at++;
                either();
            }
            must(";");
            lines++;
        }

        private void either() {
            do {
                do {
                    condition();
                } while (went("and"));
            } while (went("or"));
        }

        private boolean went(String form) {
            if (!next(form)) {
                return false;
            }
            at++;
            return true;
        }

        private void condition() {
            if (next("[(]|not")) {
                if (open == 8) {
                    here(3);
                }
                open++;
                if (must("[(]|not").equals("not")) {
                    condition();
                } else {
                    either();
                    must("[)]");
                }
                open--;
                return;
            }
            sum();
            must("[<=>]");
            sum();
        }

        private void sum() {
            String unit = NUMBER + "|sort|age|days|kids|month";
            must(unit);
            while (next("[-+*/]")) {
                if (must("[-+*/]").equals("/")) {
                    if (next("0{1,4}")) {
                        here(2);
                    }
                    must(NUMBER);
                } else {
                    must(unit);
                }
            }
        }
    }
}
