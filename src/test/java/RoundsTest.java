/** Promises 29 and 30: the value of mixed rounds, and the inspector's odds. */
public final class RoundsTest {
    public static void main(String[] args) {
        oneCorner();
        cornersThatAreLeftOut();
        theOddsAreOneTogether();
        theGreatestNumbers();
        refusals();
        Checks.end();
    }

    private static void value(StringsSheet x, int fine, long above, long below) {
        Checks.due("value(" + fine + ", 0)", x.value(fine, 0), above);
        Checks.due("value(" + fine + ", 1)", x.value(fine, 1), below);
    }

    private static void odds(StringsSheet x, int fine, int corner, long above, long below) {
        Checks.due("odds(" + fine + ", " + corner + ", 0)", x.odds(fine, corner, 0), above);
        Checks.due("odds(" + fine + ", " + corner + ", 1)", x.odds(fine, corner, 1), below);
    }

    private static void oneCorner() {
        StringsSheet x = Checks.on("corner 99;goods 1 1 1;");
        value(x, 1, -1, 1);
        value(x, 99, -99, 1);
        odds(x, 7, 0, 1, 1);
    }

    private static void cornersThatAreLeftOut() {
        // 10 and 4 with 2 more: (10 - v) / 12 + (4 - v) / 6 = 1 at v = 2, where 2 earns no more.
        StringsSheet x = Checks.on("corner 4;corner 10;corner 2;goods 1 1 1;");
        value(x, 2, 2, 1);
        odds(x, 2, 0, 1, 3);
        odds(x, 2, 1, 2, 3);
        odds(x, 2, 2, 0, 1);
        // 0 is a fraction, too: (3 - v) / 6 + (3 - v) / 6 = 1 at v = 0.
        StringsSheet y = Checks.on("corner 3;corner 3;corner 0;goods 1 1 1;");
        value(y, 3, 0, 1);
        odds(y, 3, 0, 1, 2);
        odds(y, 3, 2, 0, 1);
        // Below 0, all are taken in: -v / 2 each of two.
        StringsSheet z = Checks.on("corner 0;corner 0;goods 1 1 1;");
        value(z, 2, -1, 1);
        value(z, 3, -3, 2);
        odds(z, 3, 1, 1, 2);
    }

    private static void theOddsAreOneTogether() {
        StringsSheet x = Checks.on("corner 0;corner 99;corner 50;corner 98;corner 1;corner 0;corner 97;goods 1 1 1;");
        for (int fine : new int[] {1, 2, 30, 98, 99}) {
            double sum = 0;
            double value = (double) x.value(fine, 0) / x.value(fine, 1);
            for (int c = 0; c < 7; c++) {
                double odds = (double) x.odds(fine, c, 0) / x.odds(fine, c, 1);
                int earns = new int[] {0, 99, 50, 98, 1, 0, 97}[c];
                sum += odds;
                Checks.due("nowhere more than the value", earns - odds * (earns + fine) < value + 1e-9 ? 1 : 0, 1);
            }
            Checks.due("odds in all", Math.abs(sum - 1) < 1e-9 ? 1 : 0, 1);
        }
    }

    private static void theGreatestNumbers() {
        // Seven of 99 with 99 more: (99 - v) / 198 is one by seven.
        StringsSheet x = Checks.on("corner 99;".repeat(7) + "goods 1 1 1;");
        value(x, 99, 495, 7);
        odds(x, 99, 6, 1, 7);
        StringsSheet y = Checks.on("corner 99;corner 98;corner 97;corner 96;corner 95;corner 94;corner 93;goods 1 1 1;");
        Model m = new Model();
        m.tape = "corner 99;corner 98;corner 97;corner 96;corner 95;corner 94;corner 93;goods 1 1 1;";
        m.pavement();
        for (int fine = 1; fine <= 99; fine += 14) {
            value(y, fine, m.value(fine, 0), m.value(fine, 1));
            for (int c = 0; c < 7; c++) {
                odds(y, fine, c, m.odds(fine, c, 0), m.odds(fine, c, 1));
            }
        }
    }

    private static void refusals() {
        StringsSheet x = Checks.on("corner 5;goods 1 1 1;");
        Checks.due("fine 0", x.value(0, 0), Checks.BAD);
        Checks.due("fine 100", x.value(100, 0), Checks.BAD);
        Checks.due("what", x.value(1, 2), Checks.BAD);
        Checks.due("what", x.value(1, -1), Checks.BAD);
        Checks.due("fine 0", x.odds(0, 0, 0), Checks.BAD);
        Checks.due("fine 100", x.odds(100, 0, 0), Checks.BAD);
        Checks.due("no such corner", x.odds(1, 1, 0), Checks.BAD);
        Checks.due("no such corner", x.odds(1, -1, 0), Checks.BAD);
        Checks.due("what", x.odds(1, 0, 2), Checks.BAD);
        StringsSheet none = new StringsSheet();
        Checks.due("no pavement", none.value(1, 0), Checks.STATE);
        Checks.due("no pavement, fine", none.value(0, 0), Checks.BAD);
        Checks.due("no pavement", none.odds(1, 0, 0), Checks.BAD);
    }
}
