import java.math.BigInteger;

/** Promises 29 and 30, sentence by sentence: mixed rounds, their value, the inspector's odds. */
final class RoundSentences {
    private static final int LEAST = Integer.MIN_VALUE;
    private static final int MOST = Integer.MAX_VALUE;
    private static final int[] FINES = {1, 2, 3, 10, 50, 98, 99};

    private RoundSentences() {
    }

    static void go() {
        whatTheSellerHas();
        values();
        odds();
        oddsAreOneTogether();
        valueIsAsked();
        oddsAreAsked();
    }

    private static StringsSheet town(int... earns) {
        StringBuilder text = new StringBuilder();
        for (int e : earns) {
            text.append("corner ").append(e).append(';');
        }
        return Checks.on(text + "goods 1 1 1;");
    }

    private static void value(StringsSheet x, int fine, long above, long below) {
        Sentence.due("value(" + fine + ", 0)", x.value(fine, 0), above);
        Sentence.due("value(" + fine + ", 1)", x.value(fine, 1), below);
    }

    private static void odds(StringsSheet x, int fine, int corner, long above, long below) {
        Sentence.due("odds(" + fine + ", " + corner + ", 0)", x.odds(fine, corner, 0), above);
        Sentence.due("odds(" + fine + ", " + corner + ", 1)", x.odds(fine, corner, 1), below);
    }

    private static void whatTheSellerHas() {
        Sentence.says(0, "MIXED rounds with a fine F (1 to 99) more than what is earned: one SELLER is at one CORNER, one "
            + "inspector at one: the SELLER has EARNS there, less (EARNS and F) if the inspector is there too.");
        // With one corner both are there: EARNS less EARNS and F.
        for (int fine : FINES) {
            value(town(0), fine, -fine, 1);
            value(town(99), fine, -fine, 1);
        }
        Sentence.due("fine 0", town(5).value(0, 0), Checks.BAD);
        Sentence.due("fine 100", town(5).value(100, 0), Checks.BAD);
        // What sellers are there and where does not matter.
        StringsSheet x = Checks.on("corner 4;corner 10;goods 1 1 99;seller 0 0;seller 0 0;watcher 1;");
        Checks.raid(x, 1);
        x.keep();
        value(x, 2, 2, 1);
    }

    private static void values() {
        Sentence.says(0, "VALUE (it may be below 0): what the SELLER has at least, on the mean, by its best mix of CORNERS, "
            + "as the inspector by his lets it have at most: a fraction.");
        // Two alike: (e - v) by (e + f) is a half.
        value(town(0, 0), 1, -1, 2);
        value(town(0, 0), 2, -1, 1);
        value(town(3, 3), 3, 0, 1);
        value(town(3, 3), 2, 1, 2);
        value(town(3, 3), 4, -1, 2);
        value(town(99, 99), 1, 49, 1);
        // A corner that earns just the value, one less, and one more.
        value(town(4, 10, 2), 2, 2, 1);
        value(town(4, 10, 1), 2, 2, 1);
        value(town(4, 10, 0), 2, 2, 1);
        value(town(4, 10, 3), 2, 22, 9);
        // A corner that earns 0 is better than a fine for certain.
        value(town(99, 0), 1, -1, 101);
        value(town(0, 99), 1, -1, 101);
        value(town(99, 0), 99, -33, 1);
        value(town(99, 99, 99, 99, 99, 99, 99), 99, 495, 7);
        value(town(0, 0, 0, 0, 0, 0, 0), 99, -99, 7);
        value(town(99, 98, 97, 0, 0, 0, 0), 1, 955499, 14701);
    }

    private static void odds() {
        Sentence.says(0, "The inspector's odds of a CORNER by that: 0, where EARNS are no more than VALUE, else (EARNS less "
            + "VALUE) by (EARNS and F): these are 1 together.");
        StringsSheet x = town(4, 10, 2, 1);
        odds(x, 2, 0, 1, 3);
        odds(x, 2, 1, 2, 3);
        odds(x, 2, 2, 0, 1);
        odds(x, 2, 3, 0, 1);
        StringsSheet one = town(5);
        odds(one, 1, 0, 1, 1);
        odds(one, 99, 0, 1, 1);
        StringsSheet below = town(0, 0);
        odds(below, 7, 0, 1, 2);
        odds(below, 7, 1, 1, 2);
        StringsSheet seven = town(99, 99, 99, 99, 99, 99, 99);
        for (int c = 0; c < 7; c++) {
            odds(seven, 99, c, 1, 7);
        }
        // -1 by 101 is the value: 100 by 101 and 1 by 101.
        StringsSheet both = town(99, 0);
        odds(both, 1, 0, 100, 101);
        odds(both, 1, 1, 1, 101);
    }

    /** By the value alone: where EARNS are more, (EARNS less VALUE) by (EARNS and F), 1 in all, to the last figure. */
    private static void oddsAreOneTogether() {
        int[][] towns = {{99, 98, 97, 96, 95, 94, 93}, {0, 99, 50, 98, 1, 0, 97}, {7, 11, 13, 17, 19, 23, 29},
            {99, 89, 79, 69, 59, 49, 39}, {1, 2, 3, 4, 5, 6, 7}, {50, 0}, {1, 0, 0}, {99, 97, 89, 83, 79, 73, 71}};
        for (int[] earns : towns) {
            StringsSheet x = town(earns);
            for (int fine : FINES) {
                BigInteger above = BigInteger.ZERO;
                BigInteger below = BigInteger.ONE;
                long valueAbove = x.value(fine, 0);
                long valueBelow = x.value(fine, 1);
                for (int c = 0; c < earns.length; c++) {
                    BigInteger more = BigInteger.valueOf(earns[c]).multiply(BigInteger.valueOf(valueBelow))
                        .subtract(BigInteger.valueOf(valueAbove)).max(BigInteger.ZERO);
                    BigInteger by = BigInteger.valueOf(valueBelow).multiply(BigInteger.valueOf(earns[c] + fine));
                    BigInteger common = more.gcd(by);
                    odds(x, fine, c, more.divide(common).longValueExact(), by.divide(common).longValueExact());
                    above = above.multiply(by).add(more.multiply(below));
                    below = below.multiply(by);
                }
                Sentence.due("1 together, with fine " + fine, above.equals(below) ? 1 : 0, 1);
                Sentence.due("in lowest terms", BigInteger.valueOf(valueAbove).gcd(BigInteger.valueOf(valueBelow)).longValueExact(), 1);
                Sentence.due("the lower one above 0", valueBelow > 0 ? 1 : 0, 1);
            }
        }
    }

    private static void valueIsAsked() {
        Sentence.says(29, "VALUE of MIXED rounds: above (what = 0), below (1).");
        StringsSheet x = town(3, 3);
        value(x, 2, 1, 2);
        Sentence.says(29, "BAD; STATE: no PAVEMENT.");
        StringsSheet none = new StringsSheet();
        for (int bad : new int[] {LEAST, -1, 0, 100, MOST}) {
            Sentence.due("value(" + bad + ", 0)", x.value(bad, 0), Checks.BAD);
            Sentence.due("value(" + bad + ", 0), no pavement", none.value(bad, 0), Checks.BAD);
        }
        for (int bad : new int[] {LEAST, -1, 2, MOST}) {
            Sentence.due("value(1, " + bad + ")", x.value(1, bad), Checks.BAD);
            Sentence.due("value(1, " + bad + "), no pavement", none.value(1, bad), Checks.BAD);
        }
        Sentence.due("no pavement", none.value(1, 0), Checks.STATE);
        Sentence.due("no pavement", none.value(99, 1), Checks.STATE);
    }

    private static void oddsAreAsked() {
        Sentence.says(30, "The inspector's odds of a CORNER: above (what = 0), below (1).");
        StringsSheet x = town(3, 3);
        odds(x, 1, 0, 1, 2);
        odds(x, 99, 1, 1, 2);
        Sentence.says(30, "BAD.");
        StringsSheet none = new StringsSheet();
        for (int bad : new int[] {LEAST, -1, 0, 100, MOST}) {
            Sentence.due("odds(" + bad + ", 0, 0)", x.odds(bad, 0, 0), Checks.BAD);
        }
        for (int bad : new int[] {LEAST, -1, 2, 7, MOST}) {
            Sentence.due("odds(1, " + bad + ", 0)", x.odds(1, bad, 0), Checks.BAD);
            Sentence.due("odds(1, 0, " + bad + ")", x.odds(1, 0, bad), Checks.BAD);
        }
        Sentence.due("no pavement", none.odds(1, 0, 0), Checks.BAD);
        Sentence.due("no pavement", none.odds(0, 0, 0), Checks.BAD);
    }
}
