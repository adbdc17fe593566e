/** What the tests share: telling answers that are not due, and feeding texts. */
final class Due {
    private static int wrong = 0;
    private static int asked = 0;

    private Due() {
    }

    static void is(String call, long got, long want) {
        asked++;
        if (got != want) {
            wrong++;
            System.out.println(call + " answered " + got + ", due is " + want);
        }
    }

    static void is(String call, boolean got, boolean want) {
        is(call, got ? 1L : 0L, want ? 1L : 0L);
    }

    /** Puts a text on the TAPE: feeds of twenty bytes, and the end behind the text. */
    static void put(ClayHouse x, String text) {
        int before = 0;
        while (x.end(before + 1)) {
            throw new IllegalStateException("the tape was not empty");
        }
        StringBuilder padded = new StringBuilder(text);
        while (padded.length() % 20 != 0) {
            padded.append(' ');
        }
        for (int i = 0; i < padded.length(); i += 20) {
            int had = x.feed(number(padded, i), number(padded, i + 4), number(padded, i + 8), number(padded, i + 12),
                    number(padded, i + 16));
            is("feed of " + text, had, i + 20);
        }
        is("end of " + text, x.end(text.length()), true);
    }

    private static int number(CharSequence text, int from) {
        return text.charAt(from) << 24 | text.charAt(from + 1) << 16 | text.charAt(from + 2) << 8 | text.charAt(from + 3);
    }

    /** A text that is read as TABLET k: so many LINES, no FAULT. */
    static void tablet(ClayHouse x, int k, String text, int lines) {
        put(x, text);
        is("tablet " + text, x.tablet(k), lines);
        is("fault(0) of " + text, x.fault(0), 0);
        is("fault(1) of " + text, x.fault(1), -1);
    }

    static void tabletFault(ClayHouse x, int k, String text, int fault, int place) {
        put(x, text);
        is("tablet " + text, x.tablet(k), -1);
        is("fault(0) of " + text, x.fault(0), fault);
        is("fault(1) of " + text, x.fault(1), place);
        is("fault(2) of " + text, x.fault(2), -1);
        is("fault(-1) of " + text, x.fault(-1), -1);
        is("the tape is empty behind " + text, x.end(1), false);
    }

    static void rules(ClayHouse x, String text, int lines) {
        put(x, text);
        is("rules " + text, x.rules(), lines);
        is("fault(0) of " + text, x.fault(0), 0);
        is("fault(1) of " + text, x.fault(1), -1);
        is("look(8) of " + text, x.look(8), lines);
    }

    static void rulesFault(ClayHouse x, String text, int fault, int place) {
        long before = x.look(8);
        put(x, text);
        is("rules " + text, x.rules(), -1);
        is("fault(0) of " + text, x.fault(0), fault);
        is("fault(1) of " + text, x.fault(1), place);
        is("look(8) of " + text, x.look(8), before);
        is("the tape is empty behind " + text, x.end(1), false);
    }

    static void done() {
        System.out.println(asked + " answers, " + wrong + " wrong");
        if (wrong != 0) {
            System.exit(1);
        }
    }

    /** Numbers that look thrown, the same in every run. */
    static final class Dice {
        private long state;

        Dice(long seed) {
            state = seed * 2862933555777941757L + 3037000493L;
        }

        int below(int bound) {
            state = state * 6364136223846793005L + 1442695040888963407L;
            return (int) ((state >>> 33) % bound);
        }

        int from(int least, int greatest) {
            return least + below(greatest - least + 1);
        }
    }
}
