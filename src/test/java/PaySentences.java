import java.util.ArrayList;
import java.util.List;

/** Promises 25 to 27 and 31 to 33, sentence by sentence: what is saved, pay shared, cellars, debts. */
final class PaySentences {
    private static final int LEAST = Integer.MIN_VALUE;
    private static final int MOST = Integer.MAX_VALUE;

    // The raid walks 0 1 2 3, minutes 0, 5, 10, 15; a whistle passes a street in one minute.
    private static final String ROAD = "corner 9;corner 9;corner 9;corner 9;street 0 1 5;street 1 2 5;street 2 3 5;"
        + "goods 1 20 10;goods 2 5 1;goods 1 7 0;goods 3 99 99;";
    private static final String WATCHED = "watcher 0;watcher 3;law 0 0 9;";
    private static final String FIVE = "corner 1;goods 1 1 0;" + "seller 0 0;".repeat(5);

    private PaySentences() {
    }

    static void go() {
        gains();
        partsOverAllOrders();
        paysAreAFraction();
        paysOfAll();
        stored();
        storedOfSeveral();
        storedOrNone();
        owing();
        rings();
        theFirstRing();
        ringsByHand();
        savedIsAsked();
        paysIsAsked();
        storedIsAsked();
        oweIsAsked();
        owedIsAsked();
        passedIsAsked();
    }

    // ---- pay

    private static StringsSheet afterADay(String sellers) {
        StringsSheet x = Checks.on(ROAD + sellers + WATCHED);
        Checks.raid(x, 0, 1, 2, 3);
        x.keep();
        return x;
    }

    private static void pays(StringsSheet x, int pay, int seller, long above, long below) {
        Sentence.due("pays of " + seller + " for " + pay + ", above", x.pays(0, pay, seller, 0), above);
        Sentence.due("pays of " + seller + " for " + pay + ", below", x.pays(0, pay, seller, 1), below);
    }

    private static void gains() {
        Sentence.says(0, "PAYS: a WATCHER's pay P (1 to 9999): a set of SELLERS gains by it what it SAVED them on DAYS, "
            + "added, less P, if that is above 0, else 0.");
        StringsSheet one = afterADay("seller 0 1;");
        Sentence.due("saved", one.saved(0, 0), 30);
        pays(one, 1, 0, 1, 1);
        pays(one, 29, 0, 29, 1);
        pays(one, 30, 0, 30, 1);
        pays(one, 31, 0, 30, 1);
        pays(one, 9999, 0, 30, 1);
        Sentence.due("pay 0", one.pays(0, 0, 0, 0), Checks.BAD);
        Sentence.due("pay 10000", one.pays(0, 10000, 0, 0), Checks.BAD);
        Checks.raid(one, 0, 1);
        one.keep();
        Sentence.due("saved on two days", one.saved(0, 0), 60);
        pays(one, 59, 0, 59, 1);
        pays(one, 61, 0, 60, 1);
    }

    private static void partsOverAllOrders() {
        Sentence.says(0, "A SELLER's part of the gain: what it adds to the set of those ahead of it, over all orders, "
            + "on the mean.");
        StringsSheet two = afterADay("seller 0 2;seller 1 3;");
        Sentence.due("saved", two.saved(0, 0), 30);
        Sentence.due("saved", two.saved(0, 1), 6);
        // P 35: alone nothing, together 1. P 29: alone 1 and 0, together 7. P 5: alone 25 and 1, together 31.
        pays(two, 35, 0, 59, 2);
        pays(two, 35, 1, 11, 2);
        pays(two, 29, 0, 26, 1);
        pays(two, 29, 1, 3, 1);
        pays(two, 5, 0, 5, 2);
        pays(two, 5, 1, 5, 2);
        StringsSheet five = afterADay("seller 0 1;seller 1 2;seller 2 3;seller 3 2;seller 0 3;");
        int[] saved = {30, 6, 7, 198, 30};
        for (int s = 0; s < 5; s++) {
            Sentence.due("saved(0, " + s + ")", five.saved(0, s), saved[s]);
        }
        for (int pay : new int[] {1, 6, 37, 100, 234, 270, 271, 272}) {
            long[] parts = new long[5];
            addParts(saved, pay, 0, 0, parts);
            for (int s = 0; s < 5; s++) {
                long above = 120L * saved[s] - parts[s];
                long divisor = divisor(above, 120);
                pays(five, pay, s, above / divisor, 120 / divisor);
            }
        }
    }

    /** Over all orders from here on; all that a seller adds comes to its part. */
    private static void addParts(int[] saved, int pay, int ahead, long sum, long[] parts) {
        int left = saved.length - Integer.bitCount(ahead);
        long orders = 1;
        for (int k = 2; k < left; k++) {
            orders *= k;
        }
        for (int s = 0; s < saved.length; s++) {
            if ((ahead >> s & 1) == 0) {
                parts[s] += orders * (Math.max(0, sum + saved[s] - pay) - Math.max(0, sum - pay));
                addParts(saved, pay, ahead | 1 << s, sum + saved[s], parts);
            }
        }
    }

    private static long divisor(long a, long b) {
        return b == 0 ? a : divisor(b, a % b);
    }

    private static void paysAreAFraction() {
        Sentence.says(0, "PAYS: what it was SAVED, less its part: a fraction.");
        StringsSheet x = afterADay("seller 0 1;seller 0 2;seller 0 3;seller 0 0;");
        // Three are saved 30 each, the one at the start nothing.
        for (int s = 0; s < 3; s++) {
            pays(x, 1, s, 1, 3);
            pays(x, 3, s, 1, 1);
            pays(x, 89, s, 89, 3);
            pays(x, 90, s, 30, 1);
            pays(x, 91, s, 30, 1);
        }
        pays(x, 1, 3, 0, 1);
        pays(x, 9999, 3, 0, 1);
        Sentence.due("the other watcher saved nothing", x.saved(1, 0), 0);
        Sentence.due("so nobody pays him", x.pays(1, 9999, 0, 0), 0);
        Sentence.due("so nobody pays him", x.pays(1, 9999, 0, 1), 1);
    }

    private static void paysOfAll() {
        Sentence.says(0, "(If all SAVED together is P or more, PAYS of all are P together.)");
        StringsSheet x = afterADay("seller 0 1;seller 1 2;seller 2 3;seller 3 2;seller 0 3;");
        for (int pay : new int[] {1, 2, 50, 198, 270, 271}) {
            long sum = 0;
            for (int s = 0; s < 5; s++) {
                sum += x.pays(0, pay, s, 0) * (120 / x.pays(0, pay, s, 1));
            }
            Sentence.due("pays of all, by 120, for " + pay, sum, 120L * pay);
        }
        long sum = 0;
        for (int s = 0; s < 5; s++) {
            sum += x.pays(0, 272, s, 0);
        }
        Sentence.due("for one more they are what was saved", sum, 271);
    }

    // ---- cellars

    private static void stored(StringsSheet x, long sum, int... cellars) {
        Sentence.due("stored(-1)", x.stored(-1), sum);
        for (int s = 0; s < cellars.length; s++) {
            Sentence.due("stored(" + s + ")", x.stored(s), cellars[s]);
        }
        Sentence.due("stored(" + cellars.length + ")", x.stored(cellars.length), Checks.NONE);
    }

    private static void stored() {
        Sentence.says(0, "STORED: each SELLER a CELLAR of its own (no fewer CELLARS than SELLERS): the least sum of 2 WALK "
            + "from its CORNER to the CELLAR's, and RISK times WORTH by 10 (cut), each; of several the first by SELLERS; "
            + "NONE: there are too few, or no ways.");
        String way = "corner 1;corner 1;corner 1;street 0 1 3;street 1 2 4;";
        stored(Checks.on(way + "goods 1 1 0;seller 0 0;cellar 2 0;"), 14, 0);
        stored(Checks.on(way + "goods 1 1 0;seller 0 2;cellar 2 0;"), 0, 0);
        stored(Checks.on(way + "goods 1 19 0;seller 0 0;cellar 0 1;"), 1, 0);
        stored(Checks.on(way + "goods 1 10 0;seller 0 0;cellar 0 1;"), 1, 0);
        stored(Checks.on(way + "goods 1 9 0;seller 0 0;cellar 0 1;"), 0, 0);
        stored(Checks.on(way + "goods 1 99 0;seller 0 0;cellar 0 99;"), 980, 0);
        // 19 by 10 for each of two is 1 and 1, not 38 by 10.
        stored(Checks.on(way + "goods 1 19 0;seller 0 0;seller 0 0;cellar 0 1;cellar 0 1;"), 2, 0, 1);
        // FINE is not looked at.
        stored(Checks.on(way + "goods 1 10 99;seller 0 0;cellar 0 1;"), 1, 0);
        String line = "corner 1;".repeat(7) + "street 0 1 20;street 1 2 20;street 2 3 20;street 3 4 20;street 4 5 20;street 5 6 20;";
        StringsSheet most = Checks.on(line + "goods 1 99 0;" + "seller 0 0;".repeat(5) + "cellar 6 99;".repeat(5));
        stored(most, 5 * (240 + 980), 0, 1, 2, 3, 4);
        // What is nearest to seller 0 is left to seller 1, who has it further to all others.
        stored(Checks.on(way + "goods 1 1 0;seller 0 1;seller 0 0;cellar 0 0;cellar 2 0;"), 8, 1, 0);
        stored(Checks.on(way + "goods 1 1 0;seller 0 0;seller 0 1;cellar 0 0;cellar 2 0;"), 8, 0, 1);
        stored(Checks.on(way + "goods 1 10 0;goods 1 90 0;seller 0 0;seller 1 0;cellar 0 9;cellar 0 0;"), 9, 0, 1);
        stored(Checks.on(way + "goods 1 90 0;goods 1 10 0;seller 0 0;seller 1 0;cellar 0 9;cellar 0 0;"), 9, 1, 0);
    }

    private static void storedOfSeveral() {
        String head = "corner 1;corner 1;street 0 1 3;goods 1 10 0;";
        stored(Checks.on(head + "seller 0 0;cellar 0 5;cellar 0 5;"), 5, 0);
        stored(Checks.on(head + "seller 0 0;cellar 0 6;cellar 0 5;cellar 0 5;"), 5, 1);
        stored(Checks.on(head + "seller 0 0;seller 0 0;cellar 0 5;cellar 0 6;cellar 0 5;"), 10, 0, 2);
        // 6 by walk, or 6 by risk: as much, so the first cellar is seller 0's.
        stored(Checks.on(head + "seller 0 0;cellar 1 0;cellar 0 6;"), 6, 0);
        stored(Checks.on(head + "seller 0 0;cellar 0 6;cellar 1 0;"), 6, 0);
        // Cellars 1 and 0 would do as well as 0 and 1.
        stored(Checks.on(head + "seller 0 0;seller 0 1;cellar 0 6;cellar 0 0;cellar 0 50;"), 12, 0, 1);
        stored(Checks.on(head + "seller 0 0;seller 0 0;seller 0 0;cellar 0 2;cellar 0 1;cellar 0 2;cellar 0 1;"), 4, 0, 1, 3);
        stored(Checks.on(head + "seller 0 0;".repeat(5) + "cellar 0 0;".repeat(6)), 0, 0, 1, 2, 3, 4);
        stored(Checks.on(head + "seller 0 0;".repeat(5) + "cellar 0 1;" + "cellar 0 0;".repeat(5)), 0, 1, 2, 3, 4, 5);
    }

    private static void storedNowhere(StringsSheet x) {
        for (int k = -1; k < 6; k++) {
            Sentence.due("stored(" + k + ")", x.stored(k), Checks.NONE);
        }
    }

    private static void storedOrNone() {
        String head = "corner 1;corner 1;corner 1;street 0 1 3;goods 1 10 0;";
        storedNowhere(Checks.on(head + "seller 0 0;"));
        storedNowhere(Checks.on(head + "seller 0 0;seller 0 1;cellar 0 0;"));
        storedNowhere(Checks.on(head + "seller 0 0;".repeat(5) + "cellar 0 0;".repeat(4)));
        storedNowhere(Checks.on(head + "seller 0 2;cellar 0 0;cellar 1 0;"));
        storedNowhere(Checks.on(head + "seller 0 2;seller 0 2;cellar 0 0;cellar 2 0;"));
        storedNowhere(Checks.on(head + "seller 0 0;seller 0 1;seller 0 2;cellar 0 0;cellar 1 0;cellar 1 0;cellar 0 0;"));
        stored(Checks.on(head + "seller 0 2;seller 0 0;cellar 0 0;cellar 2 0;"), 0, 1, 0);
        stored(Checks.on(head), 0);
        stored(Checks.on(head + "cellar 0 99;"), 0);
        StringsSheet x = Checks.on(head + "seller 0 0;cellar 1 0;");
        stored(x, 6, 0);
        x.goes(0, 2);
        storedNowhere(x);
        x.goes(0, 1);
        stored(x, 0, 0);
    }

    // ---- debts

    private static void owing() {
        Sentence.says(0, "OWED: SELLERS owe one another sums (to 9999 each).");
        StringsSheet x = Checks.on(FIVE);
        for (int a = 0; a < 5; a++) {
            for (int b = 0; b < 5; b++) {
                if (a != b) {
                    Sentence.due("at first", x.owed(a, b), 0);
                    Sentence.due("owe(" + a + ", " + b + ", 9999)", x.owe(a, b, 9999), 9999);
                    Sentence.due("and 1", x.owe(a, b, 1), Checks.FULL);
                }
            }
        }
        Sentence.due("as it was", x.owed(4, 3), 9999);
    }

    private static void owed(StringsSheet x, int... sums) {
        for (int k = 0; k < sums.length; k += 3) {
            Sentence.due("owed(" + sums[k] + ", " + sums[k + 1] + ")", x.owed(sums[k], sums[k + 1]), sums[k + 2]);
        }
    }

    private static StringsSheet owing(int... sums) {
        StringsSheet x = Checks.on(FIVE);
        for (int k = 0; k < sums.length; k += 3) {
            x.owe(sums[k], sums[k + 1], sums[k + 2]);
        }
        return x;
    }

    private static void rings() {
        Sentence.says(0, "PASSED round: while there is a ring (SELLERS, each once, two at least, each of which owes the next, "
            + "the last one the first) the first ring is taken: that of the fewest, of several the first as told from its "
            + "least SELLER on; each sum in it becomes less by the least of them.");
        Sentence.due("nothing owed", Checks.on(FIVE).passed(), 0);
        Sentence.due("one sum", owing(0, 1, 5).passed(), 0);
        StringsSheet chain = owing(0, 1, 5, 1, 2, 5, 2, 3, 5, 3, 4, 5, 0, 4, 5);
        Sentence.due("a chain", chain.passed(), 0);
        owed(chain, 0, 1, 5, 3, 4, 5);
        StringsSheet two = owing(3, 4, 7, 4, 3, 5);
        Sentence.due("a ring of two", two.passed(), 1);
        owed(two, 3, 4, 2, 4, 3, 0);
        StringsSheet even = owing(0, 4, 9999, 4, 0, 9999);
        Sentence.due("a ring of two, even", even.passed(), 1);
        owed(even, 0, 4, 0, 4, 0, 0);
        StringsSheet three = owing(2, 0, 1, 0, 4, 2, 4, 2, 3);
        Sentence.due("a ring of three", three.passed(), 1);
        owed(three, 2, 0, 0, 0, 4, 1, 4, 2, 2);
        StringsSheet four = owing(0, 3, 4, 3, 1, 3, 1, 4, 2, 4, 0, 5);
        Sentence.due("a ring of four", four.passed(), 1);
        owed(four, 0, 3, 2, 3, 1, 1, 1, 4, 0, 4, 0, 3);
        StringsSheet five = owing(0, 2, 4, 2, 4, 3, 4, 1, 2, 1, 3, 5, 3, 0, 9);
        Sentence.due("a ring of five", five.passed(), 1);
        owed(five, 0, 2, 2, 2, 4, 1, 4, 1, 0, 1, 3, 3, 3, 0, 7);
        Sentence.due("no ring is left", five.passed(), 0);
    }

    private static void theFirstRing() {
        // 2 3 is of the fewest, though 0 1 2 3 has a lesser seller.
        StringsSheet fewest = owing(0, 1, 5, 1, 2, 5, 2, 3, 5, 3, 0, 5, 3, 2, 4);
        Sentence.due("2 3, then 0 1 2 3", fewest.passed(), 2);
        owed(fewest, 0, 1, 4, 1, 2, 4, 2, 3, 0, 3, 0, 4, 3, 2, 0);
        // Of six sums nothing is left.
        StringsSheet least = owing(0, 1, 3, 1, 0, 3, 1, 2, 3, 2, 1, 3, 0, 2, 3, 2, 0, 3);
        Sentence.due("three rings of two", least.passed(), 3);
        owed(least, 0, 1, 0, 1, 0, 0, 1, 2, 0, 2, 1, 0, 0, 2, 0, 2, 0, 0);
        // 0 1 3 ahead of 0 2 3, which has nothing left of 3 to 0 then.
        StringsSheet second = owing(0, 1, 3, 1, 3, 3, 3, 0, 3, 0, 2, 3, 2, 3, 3);
        Sentence.due("0 1 3", second.passed(), 1);
        owed(second, 0, 1, 0, 1, 3, 0, 3, 0, 0, 0, 2, 3, 2, 3, 3);
        // A ring need not go up: 0 2 1, and 1 4 3.
        StringsSheet told = owing(0, 2, 2, 2, 1, 2, 1, 0, 2, 1, 4, 2, 4, 3, 2, 3, 1, 2);
        Sentence.due("both rings", told.passed(), 2);
        // 0 3 1 and 1 2 3 share 3 to 1: the one with seller 0 is told first.
        StringsSheet shared = owing(0, 3, 2, 3, 1, 2, 1, 0, 2, 1, 2, 2, 2, 3, 2);
        Sentence.due("0 3 1 takes what both have", shared.passed(), 1);
        owed(shared, 0, 3, 0, 3, 1, 0, 1, 0, 0, 1, 2, 2, 2, 3, 2);
        // What the ring of two leaves of 0 to 1 is for the ring of three.
        StringsSheet again = owing(0, 1, 9, 1, 0, 4, 1, 2, 9, 2, 0, 9);
        Sentence.due("0 1, then 0 1 2", again.passed(), 2);
        owed(again, 0, 1, 0, 1, 0, 0, 1, 2, 4, 2, 0, 4);
    }

    /** Every row of sellers, by its length, then as it is told. */
    private static List<int[]> allRings() {
        List<int[]> rings = new ArrayList<>();
        for (int length = 2; length <= 5; length++) {
            int all = (int) Math.pow(5, length);
            for (int code = 0; code < all; code++) {
                int[] ring = new int[length];
                int left = code;
                for (int k = length - 1; k >= 0; k--) {
                    ring[k] = left % 5;
                    left /= 5;
                }
                boolean told = true;
                for (int k = 0; k < length; k++) {
                    for (int j = 0; j < k; j++) {
                        told &= ring[j] != ring[k];
                    }
                    told &= ring[k] >= ring[0];
                }
                if (told) {
                    rings.add(ring);
                }
            }
        }
        return rings;
    }

    private static int leastIn(int[][] sums, int[] ring) {
        int least = MOST;
        for (int k = 0; k < ring.length; k++) {
            least = Math.min(least, sums[ring[k]][ring[(k + 1) % ring.length]]);
        }
        return least;
    }

    private static int passByHand(int[][] sums, List<int[]> rings) {
        int taken = 0;
        for (boolean found = true; found;) {
            found = false;
            for (int[] ring : rings) {
                int least = leastIn(sums, ring);
                if (least > 0) {
                    for (int k = 0; k < ring.length; k++) {
                        sums[ring[k]][ring[(k + 1) % ring.length]] -= least;
                    }
                    taken++;
                    found = true;
                    break;
                }
            }
        }
        return taken;
    }

    private static void ringsByHand() {
        Sentence.says(0, "How many rings were taken.");
        List<int[]> rings = allRings();
        Sentence.due("10 of two, 20 of three, 30 of four, 24 of five", rings.size(), 84);
        int most = 0;
        for (int run = 0; run < 200; run++) {
            java.util.Random random = new java.util.Random(run);
            int[][] sums = new int[5][5];
            StringsSheet x = Checks.on(FIVE);
            for (int a = 0; a < 5; a++) {
                for (int b = 0; b < 5; b++) {
                    if (a != b && random.nextInt(4) > run % 3) {
                        sums[a][b] = 1 + random.nextInt(run % 2 == 0 ? 5 : 9999);
                        x.owe(a, b, sums[a][b]);
                    }
                }
            }
            int taken = passByHand(sums, rings);
            most = Math.max(most, taken);
            Sentence.due("passed() of run " + run, x.passed(), taken);
            for (int a = 0; a < 5; a++) {
                for (int b = 0; b < 5; b++) {
                    if (a != b) {
                        Sentence.due("owed(" + a + ", " + b + ") of run " + run, x.owed(a, b), sums[a][b]);
                    }
                }
            }
        }
        Sentence.due("more than ten were taken at once", most > 10 ? 1 : 0, 1);
    }

    // ---- promises

    private static void savedIsAsked() {
        Sentence.says(25, "What a WATCHER SAVED a SELLER on DAYS, added.");
        StringsSheet x = Checks.on(ROAD + "seller 3 2;seller 0 0;" + WATCHED);
        Sentence.due("no day", x.saved(0, 0), 0);
        for (int day = 1; day <= 12; day++) {
            Checks.raid(x, 0, 1, 2);
            Sentence.due("the raid is not kept yet", x.saved(0, 0), 198 * (day - 1));
            x.keep();
            Sentence.due("day " + day, x.saved(0, 0), 198 * day);
        }
        Checks.raid(x, 0, 1, 2);
        x.keep();
        Sentence.due("there is no day 13", x.saved(0, 0), 198 * 12);
        Sentence.due("caught each time", x.saved(0, 1), 0);
        Sentence.due("the other watcher", x.saved(1, 0), 0);
        x.goes(0, 0);
        x.watch(0, 3);
        Sentence.due("wherever they go later", x.saved(0, 0), 198 * 12);
        Sentence.says(25, "BAD.");
        for (int bad : new int[] {LEAST, -1, 2, 4, MOST}) {
            Sentence.due("saved(" + bad + ", 0)", x.saved(bad, 0), Checks.BAD);
            Sentence.due("saved(0, " + bad + ")", x.saved(0, bad), Checks.BAD);
        }
        Sentence.due("no pavement", new StringsSheet().saved(0, 0), Checks.BAD);
        Sentence.due("no watcher", Checks.on(FIVE).saved(0, 0), Checks.BAD);
    }

    private static void paysIsAsked() {
        Sentence.says(26, "PAYS of a SELLER for a WATCHER's pay: above (what = 0), below (1).");
        StringsSheet x = afterADay("seller 0 2;seller 0 3;");
        Sentence.due("above", x.pays(0, 9, 1, 0), 9);
        Sentence.due("below", x.pays(0, 9, 1, 1), 2);
        Sentence.says(26, "BAD.");
        for (int bad : new int[] {LEAST, -1, 2, 4, 5, MOST}) {
            Sentence.due("pays(" + bad + ", 1, 0, 0)", x.pays(bad, 1, 0, 0), Checks.BAD);
            Sentence.due("pays(0, 1, " + bad + ", 0)", x.pays(0, 1, bad, 0), Checks.BAD);
            Sentence.due("pays(0, 1, 0, " + bad + ")", x.pays(0, 1, 0, bad), Checks.BAD);
        }
        for (int bad : new int[] {LEAST, -1, 0, 10000, MOST}) {
            Sentence.due("pays(0, " + bad + ", 0, 0)", x.pays(0, bad, 0, 0), Checks.BAD);
        }
        Sentence.due("the least pay", x.pays(0, 1, 0, 1), 2);
        Sentence.due("the greatest pay", x.pays(0, 9999, 0, 0), 30);
        Sentence.due("no pavement", new StringsSheet().pays(0, 1, 0, 0), Checks.BAD);
    }

    private static void storedIsAsked() {
        Sentence.says(27, "STORED: the sum (k = -1; NONE), the CELLAR of SELLER k; NONE: not so many, too.");
        StringsSheet x = Checks.on("corner 1;goods 1 10 0;seller 0 0;seller 0 0;cellar 0 3;cellar 0 2;cellar 0 1;");
        Sentence.due("the sum", x.stored(-1), 3);
        Sentence.due("seller 0", x.stored(0), 1);
        Sentence.due("seller 1", x.stored(1), 2);
        Sentence.due("no seller 2, though a cellar 2", x.stored(2), Checks.NONE);
        Sentence.due("no seller 5", x.stored(5), Checks.NONE);
        Sentence.due("no seller by far", x.stored(MOST), Checks.NONE);
        StringsSheet few = Checks.on("corner 1;goods 1 10 0;seller 0 0;seller 0 0;cellar 0 3;");
        Sentence.due("too few", few.stored(-1), Checks.NONE);
        Sentence.due("too few", few.stored(0), Checks.NONE);
        Sentence.says(27, "BAD: k below -1; STATE: no PAVEMENT.");
        Sentence.due("stored(-2)", x.stored(-2), Checks.BAD);
        Sentence.due("stored(least)", x.stored(LEAST), Checks.BAD);
        StringsSheet none = new StringsSheet();
        Sentence.due("no pavement", none.stored(-1), Checks.STATE);
        Sentence.due("no pavement", none.stored(MOST), Checks.STATE);
        Sentence.due("no pavement, below -1", none.stored(-2), Checks.BAD);
    }

    private static void oweIsAsked() {
        Sentence.says(31, "A SELLER owes another one a sum more (1 to 9999): what it owes it then.");
        StringsSheet x = Checks.on(FIVE);
        Sentence.due("the least", x.owe(0, 4, 1), 1);
        Sentence.due("a sum more", x.owe(0, 4, 9997), 9998);
        Sentence.due("up to 9999", x.owe(0, 4, 1), 9999);
        Sentence.due("the greatest at once", x.owe(4, 0, 9999), 9999);
        Sentence.due("not against one another", x.owed(0, 4), 9999);
        Sentence.says(31, "BAD (alike, too); FULL: above 9999.");
        for (int bad : new int[] {LEAST, -1, 0, 10000, MOST}) {
            Sentence.due("owe(0, 1, " + bad + ")", x.owe(0, 1, bad), Checks.BAD);
            Sentence.due("owe(0, 4, " + bad + ")", x.owe(0, 4, bad), Checks.BAD);
        }
        for (int bad : new int[] {LEAST, -1, 5, MOST}) {
            Sentence.due("owe(" + bad + ", 1, 1)", x.owe(bad, 1, 1), Checks.BAD);
            Sentence.due("owe(1, " + bad + ", 1)", x.owe(1, bad, 1), Checks.BAD);
            Sentence.due("owe(" + bad + ", " + bad + ", 1)", x.owe(bad, bad, 1), Checks.BAD);
        }
        for (int s = 0; s < 5; s++) {
            Sentence.due("alike", x.owe(s, s, 1), Checks.BAD);
        }
        Sentence.due("above 9999 by 1", x.owe(0, 4, 1), Checks.FULL);
        Sentence.due("above 9999 by far", x.owe(0, 4, 9999), Checks.FULL);
        Sentence.due("as it was", x.owed(0, 4), 9999);
        x.owe(2, 3, 2);
        Sentence.due("above 9999 by 1", x.owe(2, 3, 9998), Checks.FULL);
        Sentence.due("up to 9999", x.owe(2, 3, 9997), 9999);
        Sentence.due("no pavement", new StringsSheet().owe(0, 1, 1), Checks.BAD);
        Sentence.due("nobody else", Checks.on("corner 1;goods 1 1 1;seller 0 0;").owe(0, 1, 1), Checks.BAD);
    }

    private static void owedIsAsked() {
        Sentence.says(32, "What a SELLER owes another one.");
        StringsSheet x = owing(0, 4, 7, 4, 0, 2);
        Sentence.due("owed(0, 4)", x.owed(0, 4), 7);
        Sentence.due("owed(4, 0)", x.owed(4, 0), 2);
        Sentence.due("owed(0, 3)", x.owed(0, 3), 0);
        Sentence.says(32, "BAD (alike, too).");
        for (int s = 0; s < 5; s++) {
            Sentence.due("alike", x.owed(s, s), Checks.BAD);
        }
        for (int bad : new int[] {LEAST, -1, 5, MOST}) {
            Sentence.due("owed(" + bad + ", 1)", x.owed(bad, 1), Checks.BAD);
            Sentence.due("owed(1, " + bad + ")", x.owed(1, bad), Checks.BAD);
            Sentence.due("owed(" + bad + ", " + bad + ")", x.owed(bad, bad), Checks.BAD);
        }
        Sentence.due("no pavement", new StringsSheet().owed(0, 1), Checks.BAD);
    }

    private static void passedIsAsked() {
        Sentence.says(33, "PASSED round.");
        StringsSheet x = owing(0, 1, 3, 1, 0, 3);
        Sentence.due("one ring", x.passed(), 1);
        Sentence.due("nothing is left", x.owed(0, 1), 0);
        Sentence.due("no ring is left", x.passed(), 0);
        Sentence.due("nobody", Checks.on("corner 1;goods 1 1 1;").passed(), 0);
        Sentence.due("one seller", Checks.on("corner 1;goods 1 1 1;seller 0 0;").passed(), 0);
        Sentence.says(33, "STATE: no PAVEMENT.");
        Sentence.due("no pavement", new StringsSheet().passed(), Checks.STATE);
    }
}
