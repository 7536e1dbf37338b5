/** Promises 25 to 27 and 31 to 33: what watchers save, pay shared, cellars, debts. */
public final class PayTest {
    public static void main(String[] args) {
        savedOnDays();
        paySharedFairly();
        paysOfAllAreThePay();
        cellarsAtLeastCost();
        debtsAreOwed();
        debtsArePassedRound();
        Checks.end();
    }

    // The raid walks 0 1 2 3, minutes 0, 5, 10, 15; a whistle passes a street in one minute.
    private static final String ROAD = "corner 9;corner 9;corner 9;corner 9;"
        + "street 0 1 5;street 1 2 5;street 2 3 5;goods 1 20 10;goods 2 5 1;";

    private static void savedOnDays() {
        StringsSheet x = Checks.on(ROAD + "seller 0 2;seller 1 3;seller 0 0;watcher 0;watcher 1;watcher 3;law 0 0 9;");
        Checks.raid(x, 0, 1, 2, 3);
        Checks.due("no day yet", x.saved(0, 0), 0);
        x.keep();
        Checks.due("either of two would do", x.saved(0, 0), 0);
        Checks.due("either of two would do", x.saved(1, 0), 0);
        Checks.due("at once", x.saved(0, 2), 0);
        Checks.raid(x, 1, 2, 3);
        x.keep();
        Checks.due("not seen by the first", x.saved(0, 0), 0);
        Checks.due("the second alone", x.saved(1, 0), 30);
        Checks.due("the second alone", x.saved(1, 1), 6);
        Checks.due("the third too late", x.saved(2, 1), 0);
        Checks.due("never in danger on that day", x.saved(1, 2), 0);
        Checks.raid(x, 1, 2);
        x.keep();
        Checks.due("added", x.saved(1, 0), 60);
        Checks.due("nothing added", x.saved(1, 1), 6);
        Checks.due("no such watcher", x.saved(3, 0), Checks.BAD);
        Checks.due("no such watcher", x.saved(-1, 0), Checks.BAD);
        Checks.due("no such seller", x.saved(0, 3), Checks.BAD);
        Checks.due("no such seller", x.saved(0, -1), Checks.BAD);
        Checks.due("no pavement", new StringsSheet().saved(0, 0), Checks.BAD);
    }

    private static void pays(StringsSheet x, int pay, int seller, int above, int below) {
        Checks.due("pays(" + pay + ", " + seller + ") above", x.pays(0, pay, seller, 0), above);
        Checks.due("pays(" + pay + ", " + seller + ") below", x.pays(0, pay, seller, 1), below);
    }

    private static void paySharedFairly() {
        // SAVED 30 and 6, and 0 of the one at the start.
        StringsSheet x = Checks.on(ROAD + "seller 0 2;seller 1 3;seller 0 0;watcher 0;law 0 0 9;");
        pays(x, 5, 0, 0, 1);
        Checks.raid(x, 0, 1, 2, 3);
        x.keep();
        Checks.due("saved", x.saved(0, 0), 30);
        Checks.due("saved", x.saved(0, 1), 6);
        // P 10: alone 20 and 0, both 26: parts 23 and 3.
        pays(x, 10, 0, 7, 1);
        pays(x, 10, 1, 3, 1);
        pays(x, 10, 2, 0, 1);
        // P 5: alone 25 and 1, both 31: parts 27 1/2 and 3 1/2.
        pays(x, 5, 0, 5, 2);
        pays(x, 5, 1, 5, 2);
        // P 36 or more: no gain.
        pays(x, 36, 0, 30, 1);
        pays(x, 9999, 1, 6, 1);
        Checks.due("pay 0", x.pays(0, 0, 0, 0), Checks.BAD);
        Checks.due("pay 10000", x.pays(0, 10000, 0, 0), Checks.BAD);
        Checks.due("no such watcher", x.pays(1, 1, 0, 0), Checks.BAD);
        Checks.due("no such seller", x.pays(0, 1, 3, 0), Checks.BAD);
        Checks.due("what", x.pays(0, 1, 0, 2), Checks.BAD);
        Checks.due("no pavement", new StringsSheet().pays(0, 1, 0, 0), Checks.BAD);
    }

    private static void paysOfAllAreThePay() {
        StringsSheet x = Checks.on(ROAD + "seller 0 1;seller 1 3;seller 0 2;seller 1 2;seller 0 3;watcher 0;law 0 0 9;");
        Checks.raid(x, 0, 1, 2, 3);
        x.keep();
        long all = 0;
        for (int s = 0; s < 5; s++) {
            all += x.saved(0, s);
        }
        Checks.due("saved in all", all, 3 * 30 + 2 * 6);
        for (int pay : new int[] {1, 17, 50, 77, 102}) {
            long sum = 0;
            for (int s = 0; s < 5; s++) {
                sum += x.pays(0, pay, s, 0) * (120 / x.pays(0, pay, s, 1));
            }
            Checks.due("pays of all, by 120", sum, 120L * pay);
        }
    }

    private static void cellarsAtLeastCost() {
        StringsSheet x = Checks.on("corner 1;corner 1;corner 1;street 0 1 3;goods 1 19 0;goods 1 1 0;"
            + "seller 0 0;seller 1 1;cellar 1 9;cellar 0 9;cellar 0 99;cellar 2 0;");
        // Seller 0: 6 + 17, 17, 188; seller 1: 0, 6, 6 + 9.
        Checks.due("the sum", x.stored(-1), 17);
        Checks.due("seller 0", x.stored(0), 1);
        Checks.due("seller 1", x.stored(1), 0);
        Checks.due("no seller 2", x.stored(2), Checks.NONE);
        Checks.due("k", x.stored(-2), Checks.BAD);
        x.goes(1, 2);
        Checks.due("seller 1 has a cellar by itself", x.stored(1), 3);
        x.goes(0, 2);
        Checks.due("two have no way but to one", x.stored(-1), Checks.NONE);
        Checks.due("two have no way but to one", x.stored(0), Checks.NONE);
        StringsSheet few = Checks.on("corner 1;goods 1 1 0;seller 0 0;seller 0 0;cellar 0 0;");
        Checks.due("too few", few.stored(-1), Checks.NONE);
        Checks.due("too few", few.stored(0), Checks.NONE);
        StringsSheet alike = Checks.on("corner 1;goods 1 9 0;seller 0 0;seller 0 0;cellar 0 9;cellar 0 0;cellar 0 9;cellar 0 1;");
        Checks.due("8 by 10 is 0", alike.stored(-1), 0);
        Checks.due("the first of several", alike.stored(0), 1);
        Checks.due("the first of several", alike.stored(1), 3);
        Checks.due("a free cellar, but nobody for it", alike.stored(2), Checks.NONE);
        StringsSheet full = Checks.on("corner 1;goods 1 1 0;" + "seller 0 0;".repeat(5) + "cellar 0 0;".repeat(6));
        Checks.due("five in six", full.stored(4), 4);
        Checks.due("no sixth seller", full.stored(5), Checks.NONE);
        Checks.due("no such seller", full.stored(Integer.MAX_VALUE), Checks.NONE);
        StringsSheet none = Checks.on("corner 1;goods 1 1 0;");
        Checks.due("nobody", none.stored(-1), 0);
        Checks.due("nobody", none.stored(0), Checks.NONE);
        Checks.due("no pavement", new StringsSheet().stored(-1), Checks.STATE);
        Checks.due("no pavement, k", new StringsSheet().stored(-2), Checks.BAD);
    }

    private static StringsSheet five() {
        return Checks.on("corner 1;goods 1 1 0;seller 0 0;seller 0 0;seller 0 0;seller 0 0;seller 0 0;");
    }

    private static void debtsAreOwed() {
        StringsSheet x = five();
        Checks.due("nothing", x.owed(0, 1), 0);
        Checks.due("owe", x.owe(0, 1, 5), 5);
        Checks.due("more", x.owe(0, 1, 9994), 9999);
        Checks.due("above 9999", x.owe(0, 1, 1), Checks.FULL);
        Checks.due("as it was", x.owed(0, 1), 9999);
        Checks.due("not the other way", x.owed(1, 0), 0);
        Checks.due("at once", x.owe(1, 0, 9999), 9999);
        Checks.due("0", x.owe(0, 2, 0), Checks.BAD);
        Checks.due("10000", x.owe(0, 2, 10000), Checks.BAD);
        Checks.due("below 0", x.owe(0, 2, -1), Checks.BAD);
        Checks.due("alike", x.owe(2, 2, 1), Checks.BAD);
        Checks.due("alike", x.owed(2, 2), Checks.BAD);
        Checks.due("no such seller", x.owe(5, 0, 1), Checks.BAD);
        Checks.due("no such seller", x.owe(0, -1, 1), Checks.BAD);
        Checks.due("no such seller", x.owed(0, 5), Checks.BAD);
        Checks.due("no such seller", x.owed(-1, 0), Checks.BAD);
        Checks.due("no pavement", new StringsSheet().owe(0, 1, 1), Checks.BAD);
        Checks.due("no pavement", new StringsSheet().owed(0, 1), Checks.BAD);
    }

    private static void debtsArePassedRound() {
        Checks.due("no pavement", new StringsSheet().passed(), Checks.STATE);
        StringsSheet x = five();
        Checks.due("none", x.passed(), 0);
        x.owe(0, 1, 4);
        x.owe(1, 2, 6);
        x.owe(2, 3, 7);
        Checks.due("no ring", x.passed(), 0);
        x.owe(3, 4, 5);
        x.owe(4, 0, 9);
        Checks.due("a ring of five", x.passed(), 1);
        Checks.due("it owes no more", x.owed(0, 1), 0);
        Checks.due("it owes less", x.owed(4, 0), 5);
        // The shorter ring 1 3 goes ahead of 0 1 3, and takes 1 of what 1 owes 3.
        StringsSheet y = five();
        y.owe(0, 1, 2);
        y.owe(1, 3, 2);
        y.owe(3, 0, 2);
        y.owe(3, 1, 1);
        Checks.due("two rings", y.passed(), 2);
        Checks.due("left over", y.owed(0, 1), 1);
        Checks.due("left over", y.owed(3, 0), 1);
        Checks.due("nothing left", y.owed(1, 3), 0);
        // Of 0 1 3 and 0 2 3, alike long, 0 1 3 is told first; then nothing is left of 3 to 0.
        StringsSheet z = five();
        z.owe(0, 1, 3);
        z.owe(1, 3, 3);
        z.owe(3, 0, 3);
        z.owe(0, 2, 3);
        z.owe(2, 3, 3);
        Checks.due("0 1 3 ahead of 0 2 3", z.passed(), 1);
        Checks.due("0 1 3 is taken", z.owed(0, 1), 0);
        Checks.due("0 2 3 is not", z.owed(0, 2), 3);
    }
}
