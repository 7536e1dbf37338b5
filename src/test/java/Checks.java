/** What every test of the project uses: answers that are due, texts that are fed. */
final class Checks {
    static final long NOT = -9000000000000000000L;
    static final long NONE = -1000000L;
    static final long BAD = NOT - 1;
    static final long STATE = NOT - 2;
    static final long FULL = NOT - 3;
    static final long NULL = NOT - 11;
    static final long PLACE = NOT - 12;
    static final long KIND = NOT - 13;
    static final long SIZE = NOT - 14;
    static final long STORE = NOT - 15;

    private static int made = 0;
    private static int wrong = 0;

    private Checks() {
    }

    static void due(String what, long got, long want) {
        made++;
        if (got != want) {
            wrong++;
            if (wrong <= 40) {
                System.out.println(what + " answered " + got + ", due is " + want);
            }
        }
    }

    static void feed(StringsSheet x, String text) {
        int i = 0;
        while (i < text.length()) {
            int n = Math.min(8, text.length() - i);
            long w = 0;
            for (int k = 0; k < n; k++) {
                w = w << 8 | text.charAt(i + k) & 255;
            }
            x.feed(w, n);
            i += n;
        }
    }

    /** A new object with the pavement that a text tells. */
    static StringsSheet on(String text) {
        StringsSheet x = new StringsSheet();
        feed(x, text);
        if (x.pavement() < 0) {
            due("pavement() of " + text, -1, 1);
        }
        return x;
    }

    /** A row of bytes with these items. */
    static void items(StringsSheet x, int row, int... items) {
        x.row(row, 0, items.length);
        for (int i = 0; i < items.length; i++) {
            x.set(row, i, items[i]);
        }
    }

    /** A raid along these corners; it takes row 7. */
    static long raid(StringsSheet x, int... route) {
        items(x, 7, route);
        return x.raid(7, 0, route.length);
    }

    static void end() {
        System.out.println(made + " answers, " + wrong + " not as due");
        if (wrong != 0 || made == 0) {
            System.exit(1);
        }
    }
}
