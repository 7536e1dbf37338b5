/** Promises 13 to 18, sentence by sentence: raids, what they did, whistles for nothing, days. */
final class RaidSentences {
    private static final int LEAST = Integer.MIN_VALUE;
    private static final int MOST = Integer.MAX_VALUE;
    private static final int STANDS = 0;
    private static final int FLED = 1;
    private static final int CAUGHT = 2;

    // A line 0 -4- 1 -4- 2 -4- 3, and 4 by itself; a whistle passes a street in two minutes.
    private static final String LINE = "corner 9;corner 9;corner 9;corner 9;corner 9;"
        + "street 0 1 4;street 1 2 4;street 2 3 4;";
    private static final String ALL = LINE + "goods 1 1 0;seller 0 0;seller 0 1;seller 0 2;seller 0 3;seller 0 4;";
    private static final String PASS2 = "law 0 5 2;";

    private RaidSentences() {
    }

    static void go() {
        theRoute();
        atTheFirstTime();
        warned();
        caughtByMinutes();
        caughtUnwarned();
        fledOrStands();
        lost();
        gone();
        fromTwoSides();
        aDay();
        savedOnADay();
        twelveDays();
        feared();
        aRaidByItems();
        aRaidIsRefused();
        aRouteIsRefused();
        aRaidOfTwoByItems();
        aRaidOfTwoIsRefused();
        whatIsToldAfter();
        whatIsRefusedAfter();
        whistlesForNothing();
        theLatestIsKept();
        keepIsRefused();
        fearedIsAsked();
    }

    /** WARNED, AT, what became of it, GONE. */
    private static void after(StringsSheet x, int seller, long... told) {
        for (int what = 0; what < 4; what++) {
            Sentence.due("after(" + seller + ", " + what + ")", x.after(seller, what), told[what]);
        }
    }

    private static void at(StringsSheet x, long... minutes) {
        for (int s = 0; s < minutes.length; s++) {
            Sentence.due("after(" + s + ", 1)", x.after(s, 1), minutes[s]);
        }
    }

    // ---- terms

    private static void theRoute() {
        Sentence.says(0, "A RAID walks a ROUTE: CORNERS (1 to 10), each next one a street on, from minute 0 "
            + "at the first one.");
        long never = Checks.NONE;
        StringsSheet x = Checks.on(ALL);
        Sentence.due("one corner", Checks.raid(x, 2), 4);
        at(x, never, never, 0, never, never);
        Sentence.due("two corners", Checks.raid(x, 3, 2), 12);
        at(x, never, never, 4, 0, never);
        Sentence.due("ten corners", Checks.raid(x, 0, 1, 0, 1, 0, 1, 0, 1, 2, 3), 15);
        at(x, 0, 4, 32, 36, never);
        Sentence.due("no corner", x.raid(7, 0, 0), Checks.BAD);
        Sentence.due("eleven corners", Checks.raid(x, 0, 1, 0, 1, 0, 1, 0, 1, 0, 1, 0), Checks.BAD);
        Sentence.due("not a street on", Checks.raid(x, 0, 2), Checks.BAD);
        Sentence.due("no street at all", Checks.raid(x, 4, 3), Checks.BAD);
        Sentence.due("not on at all", Checks.raid(x, 1, 1), Checks.BAD);
        Sentence.due("the last step not a street on", Checks.raid(x, 0, 1, 2, 3, 2, 1, 0, 1, 2, 0), Checks.BAD);
        at(x, 0, 4, 32, 36, never);
        StringsSheet far = Checks.on("corner 1;corner 1;corner 1;street 0 1 20;street 1 2 20;goods 1 1 0;seller 0 2;");
        Sentence.due("the longest", Checks.raid(far, 0, 1, 0, 1, 0, 1, 0, 1, 0, 1), 0);
        Sentence.due("the longest", Checks.raid(far, 1, 0, 1, 0, 1, 0, 1, 0, 1, 2), 1);
        at(far, 180);
        StringsSheet two = Checks.on("corner 1;corner 1;street 0 1 9;street 1 0 3;goods 1 1 0;seller 0 1;");
        Checks.raid(two, 0, 1);
        at(two, 3);
    }

    private static void atTheFirstTime() {
        Sentence.says(0, "It is AT a CORNER at the minute it first comes to it (none: it does not).");
        StringsSheet x = Checks.on(ALL);
        Checks.raid(x, 1, 0, 1, 2, 1, 0, 1, 2);
        at(x, 4, 0, 12, Checks.NONE, Checks.NONE);
        Checks.raid(x, 2, 3, 2, 1);
        at(x, Checks.NONE, 12, 0, 4, Checks.NONE);
        Checks.raid(x, 4);
        at(x, Checks.NONE, Checks.NONE, Checks.NONE, Checks.NONE, 0);
    }

    private static void warned() {
        Sentence.says(0, "A SELLER is WARNED at the least of (AT a WATCHER's CORNER, and HEARD from there to the "
            + "SELLER's CORNER), over all WATCHERS (none).");
        StringsSheet x = Checks.on(LINE + "goods 1 1 0;seller 0 2;seller 0 4;seller 0 0;watcher 3;watcher 0;watcher 4;" + PASS2);
        Checks.raid(x, 0, 1, 2, 3);
        Sentence.due("4 by the second, 14 by the first", x.after(0, 0), 4);
        Sentence.due("where the raid begins", x.after(2, 0), 0);
        Sentence.due("no way for a whistle", x.after(1, 0), Checks.NONE);
        Checks.raid(x, 3, 2, 1, 0);
        Sentence.due("2 by the first, 16 by the second", x.after(0, 0), 2);
        Sentence.due("6 by the first, 12 by the second", x.after(2, 0), 6);
        Checks.raid(x, 1, 2, 3);
        Sentence.due("8 and 2, late", x.after(0, 0), 10);
        Checks.raid(x, 1, 2);
        Sentence.due("nobody sees it", x.after(0, 0), Checks.NONE);
        Checks.raid(x, 4);
        Sentence.due("seen where it is not heard", x.after(0, 0), Checks.NONE);
        Sentence.due("seen and heard at the same corner", x.after(1, 0), 0);
        StringsSheet nobody = Checks.on(LINE + "goods 1 1 0;seller 0 0;");
        Checks.raid(nobody, 0);
        Sentence.due("no watcher", nobody.after(0, 0), Checks.NONE);
        // The first watcher is as soon as the second one.
        StringsSheet alike = Checks.on(LINE + "goods 1 1 0;seller 0 1;watcher 0;watcher 0;" + PASS2);
        Checks.raid(alike, 0);
        Sentence.due("two at one corner", alike.after(0, 0), 2);
    }

    private static void caughtByMinutes() {
        Sentence.says(0, "CAUGHT: the RAID is AT its CORNER at a minute below WARNED and FOLD (or it is not WARNED).");
        // At corner 2 it is WARNED at 4, and the raid is there at 8.
        for (int fold = 1; fold <= 9; fold++) {
            StringsSheet x = Checks.on(LINE + "goods " + fold + " 1 0;seller 0 2;watcher 0;" + PASS2);
            Sentence.due("FOLD " + fold + ", caught", Checks.raid(x, 0, 1, 2), fold > 4 ? 1 : 0);
            after(x, 0, 4, 8, fold > 4 ? CAUGHT : FLED, fold > 4 ? 0 : fold + 5);
        }
        // At the watcher's own corner there is no minute left.
        StringsSheet same = Checks.on(LINE + "goods 1 1 0;seller 0 0;watcher 0;" + PASS2);
        Sentence.due("at once", Checks.raid(same, 0), 1);
        after(same, 0, 0, 0, CAUGHT, 0);
        // One minute is as long as it takes, if the street is one minute longer than the whistle.
        StringsSheet near = Checks.on("corner 1;corner 1;street 0 1 2;goods 1 1 0;goods 2 1 0;seller 0 1;seller 1 1;watcher 0;");
        Sentence.due("just gone, and just not", Checks.raid(near, 0, 1), 2);
    }

    private static void caughtUnwarned() {
        StringsSheet x = Checks.on("corner 1;corner 1;corner 1;street 0 1 20;street 1 2 20;goods 1 1 0;seller 0 2;watcher 2;");
        Sentence.due("warned by one at its own corner, too late", Checks.raid(x, 1, 0, 1, 0, 1, 0, 1, 0, 1, 2), 1);
        after(x, 0, 180, 180, CAUGHT, 0);
        x.watch(0, 0);
        Sentence.due("warned early enough", Checks.raid(x, 0, 1, 2), 0);
        after(x, 0, 14, 40, FLED, 12);
        StringsSheet nobody = Checks.on("corner 1;corner 1;corner 1;street 0 1 20;street 1 2 20;goods 1 1 0;seller 0 2;");
        Sentence.due("not warned, late", Checks.raid(nobody, 1, 0, 1, 0, 1, 0, 1, 0, 1, 2), 1);
        after(nobody, 0, Checks.NONE, 180, CAUGHT, 0);
        Sentence.due("not warned, but the raid does not come", Checks.raid(nobody, 1), 0);
        after(nobody, 0, Checks.NONE, Checks.NONE, STANDS, 0);
    }

    private static void fledOrStands() {
        Sentence.says(0, "Else, if WARNED, it FLED; else it STANDS.");
        StringsSheet x = Checks.on(LINE + "goods 1 1 0;seller 0 3;seller 0 4;watcher 0;" + PASS2);
        Sentence.due("caught", Checks.raid(x, 0), 0);
        after(x, 0, 6, Checks.NONE, FLED, 6);
        after(x, 1, Checks.NONE, Checks.NONE, STANDS, 0);
        Sentence.due("caught", Checks.raid(x, 1), 0);
        after(x, 0, Checks.NONE, Checks.NONE, STANDS, 0);
    }

    private static void lost() {
        Sentence.says(0, "LOST: WORTH and FINE of each that is CAUGHT.");
        StringsSheet x = Checks.on("corner 1;corner 1;goods 1 1 0;goods 1 99 99;seller 0 0;seller 1 1;seller 1 0;");
        Checks.raid(x, 0);
        Sentence.due("two of three", x.after(-1, 4), 1 + 198);
        Checks.raid(x, 1);
        Sentence.due("one of three", x.after(-1, 4), 198);
        x.goes(1, 0);
        Checks.raid(x, 1);
        Sentence.due("none", x.after(-1, 4), 0);
        StringsSheet most = Checks.on("corner 1;goods 1 99 99;" + "seller 0 0;".repeat(5));
        Sentence.due("all five", Checks.raid(most, 0), 31);
        Sentence.due("the most", most.after(-1, 4), 990);
        StringsSheet none = Checks.on("corner 1;goods 1 99 99;");
        Sentence.due("nobody", Checks.raid(none, 0), 0);
        Sentence.due("nobody", none.after(-1, 4), 0);
    }

    private static void gone() {
        Sentence.says(0, "GONE: minutes in which a SELLER that FLED does not sell: FOLD and QUIET.");
        String town = "corner 1;corner 1;corner 1;street 0 1 20;goods 1 1 0;goods 9 1 0;seller 0 1;seller 1 1;seller 0 0;"
            + "seller 0 2;watcher 0;";
        for (int quiet : new int[] {0, 1, 30}) {
            StringsSheet x = Checks.on(town + "law 0 " + quiet + " 9;");
            Sentence.due("caught", Checks.raid(x, 0, 1), 4);
            Sentence.due("FOLD 1, QUIET " + quiet, x.after(0, 3), 1 + quiet);
            Sentence.due("FOLD 9, QUIET " + quiet, x.after(1, 3), 9 + quiet);
            Sentence.due("caught", x.after(2, 3), 0);
            Sentence.due("stands", x.after(3, 3), 0);
        }
        StringsSheet x = Checks.on(town);
        Checks.raid(x, 0);
        Sentence.due("QUIET of no law", x.after(1, 3), 9 + 11);
    }

    private static void fromTwoSides() {
        Sentence.says(0, "A RAID from TWO sides: two ROUTES at once: AT, WARNED are the least of both.");
        StringsSheet x = Checks.on(ALL + "watcher 0;watcher 3;" + PASS2);
        Checks.items(x, 0, 0, 1, 2, 3, 2, 1);
        Sentence.due("0 1 2 and 3 2 1", x.two(0, 0, 3, 3), 9);
        at(x, 0, 4, 4, 0, Checks.NONE);
        int[] minutes = {0, 2, 2, 0};
        for (int s = 0; s < 4; s++) {
            Sentence.due("WARNED " + s, x.after(s, 0), minutes[s]);
        }
        Sentence.due("3 2 1 and 0 1 2", x.two(0, 3, 0, 3), 9);
        at(x, 0, 4, 4, 0, Checks.NONE);
        // 1 2 3 alone warns seller 1 at 8 + 4, and 2 1 0 alone at 8 + 2.
        Checks.items(x, 0, 1, 2, 3, 2, 1, 0);
        x.raid(0, 0, 3);
        Sentence.due("by the first alone", x.after(1, 0), 12);
        x.raid(0, 3, 3);
        Sentence.due("by the second alone", x.after(1, 0), 10);
        x.two(0, 0, 3, 3);
        Sentence.due("by both", x.after(1, 0), 10);
        at(x, 8, 0, 0, 8, Checks.NONE);
        x.two(0, 0, 0, 3);
        Sentence.due("the same route twice", x.after(1, 0), 12);
        at(x, Checks.NONE, 0, 4, 8, Checks.NONE);
        // Seen by one side, caught by the other.
        Checks.items(x, 0, 0, 2);
        Sentence.due("corners 0 and 2 at once", x.two(0, 0, 1, 1), 5);
        after(x, 2, 4, 0, CAUGHT, 0);
        after(x, 1, 2, Checks.NONE, FLED, 6);
    }

    private static void aDay() {
        Sentence.says(0, "A DAY that is kept: one RAID (not of two): for each CORNER whether it came there; SAVED by each "
            + "WATCHER for each SELLER: LOST without that WATCHER less LOST with all (of that SELLER).");
        StringsSheet x = Checks.on(ALL + "watcher 3;" + PASS2);
        Checks.raid(x, 1, 2, 1, 2);
        x.keep();
        int[] came = {1, 2, 2, 1, 1};
        for (int c = 0; c < 5; c++) {
            Sentence.due("came to " + c + " once, however often", x.feared(c, 0), came[c]);
        }
        Checks.items(x, 0, 0, 3);
        x.two(0, 0, 1, 1);
        Sentence.due("not of two", x.keep(), Checks.STATE);
        Sentence.due("no more days", x.count(7), 1);
    }

    private static void savedOnADay() {
        // The raid 0 1 2 3 is at 2 at minute 8, at 3 at minute 12.
        String town = LINE + "goods 3 20 10;goods 5 7 0;seller 0 3;seller 1 3;seller 0 0;seller 0 4;";
        StringsSheet one = Checks.on(town + "watcher 0;" + PASS2);
        Sentence.due("caught", Checks.raid(one, 0, 1, 2, 3), 4);
        one.keep();
        Sentence.due("WORTH and FINE", one.saved(0, 0), 30);
        Sentence.due("WORTH and FINE", one.saved(0, 1), 7);
        Sentence.due("caught with him, too", one.saved(0, 2), 0);
        Sentence.due("not in danger", one.saved(0, 3), 0);
        // Watcher 1 is seen at 4 and heard at 3 at 8: FOLD 3 is enough till 12, FOLD 5 is not.
        StringsSheet two = Checks.on(town + "watcher 0;watcher 1;watcher 4;" + PASS2);
        Checks.raid(two, 0, 1, 2, 3);
        two.keep();
        Sentence.due("either would do", two.saved(0, 0), 0);
        Sentence.due("either would do", two.saved(1, 0), 0);
        Sentence.due("only the first would do", two.saved(0, 1), 7);
        Sentence.due("only the first would do", two.saved(1, 1), 0);
        Sentence.due("he saw nothing", two.saved(2, 0), 0);
        StringsSheet none = Checks.on(town + "watcher 2;" + PASS2);
        Checks.raid(none, 0, 1, 2, 3);
        none.keep();
        Sentence.due("too late", none.saved(0, 0), 0);
    }

    private static void twelveDays() {
        Sentence.says(0, "DAYS 12 at most.");
        StringsSheet x = Checks.on("corner 1;corner 1;goods 1 1 0;");
        for (int day = 1; day <= 12; day++) {
            Checks.raid(x, 0);
            Sentence.due("day " + day, x.keep(), day);
        }
        Checks.raid(x, 1);
        Sentence.due("day 13", x.keep(), Checks.FULL);
        Sentence.due("days", x.count(7), 12);
        Sentence.due("feared, 13 by 14", x.feared(0, 0), 13);
        Sentence.due("feared, 13 by 14", x.feared(0, 1), 14);
        Sentence.due("feared, 1 by 14", x.feared(1, 0), 1);
        Sentence.due("feared, 1 by 14", x.feared(1, 1), 14);
    }

    private static void fraction(StringsSheet x, int corner, int above, int below) {
        Sentence.due("feared(" + corner + ", 0)", x.feared(corner, 0), above);
        Sentence.due("feared(" + corner + ", 1)", x.feared(corner, 1), below);
    }

    private static void feared() {
        Sentence.says(0, "FEARED of a CORNER: DAYS on which a RAID came there, and 1, by DAYS and 2.");
        StringsSheet x = Checks.on(LINE + "goods 1 1 0;");
        fraction(x, 0, 1, 2);
        fraction(x, 4, 1, 2);
        Checks.raid(x, 0, 1);
        fraction(x, 0, 1, 2);
        x.keep();
        fraction(x, 0, 2, 3);
        fraction(x, 1, 2, 3);
        fraction(x, 2, 1, 3);
        Checks.raid(x, 0);
        x.keep();
        fraction(x, 0, 3, 4);
        fraction(x, 1, 1, 2);
        fraction(x, 2, 1, 4);
        Checks.raid(x, 2, 1, 0, 1);
        x.keep();
        fraction(x, 0, 4, 5);
        fraction(x, 1, 3, 5);
        fraction(x, 2, 2, 5);
        fraction(x, 3, 1, 5);
    }

    // ---- promises

    private static void aRaidByItems() {
        Sentence.says(13, "A RAID by a ROUTE, n CORNERS (1 to 10), ITEMS of a ROW from i on: CAUGHT (bits).");
        StringsSheet x = Checks.on(ALL);
        for (int lane = 0; lane < 3; lane++) {
            x.row(lane, lane, 40);
            int[] route = {4, 0, 1, 2, 3, 2, 1, 0, 1, 2, 1, 4};
            for (int i = 0; i < route.length; i++) {
                x.set(lane, 28 + i, route[i]);
            }
            Sentence.due("the last item", x.raid(lane, 39, 1), 16);
            Sentence.due("one before", x.raid(lane, 38, 1), 2);
            Sentence.due("from 29 on", x.raid(lane, 29, 1), 1);
            Sentence.due("two from 29 on", x.raid(lane, 29, 2), 3);
            Sentence.due("ten from 29 on", x.raid(lane, 29, 10), 15);
            Sentence.due("ten from 28 on", x.raid(lane, 28, 10), Checks.BAD);
            Sentence.due("ten from 30 on", x.raid(lane, 30, 10), Checks.BAD);
            Sentence.due("the first item", x.raid(lane, 0, 1), 1);
        }
    }

    private static void aRaidIsRefused() {
        Sentence.says(13, "BAD: ROW, n; STATE: no PAVEMENT; NULL; PLACE; then BAD: an ITEM, no street to it from the "
            + "one ahead.");
        StringsSheet none = new StringsSheet();
        none.row(0, 0, 12);
        StringsSheet x = Checks.on(ALL);
        x.row(0, 0, 12);
        for (int bad : new int[] {LEAST, -1, 8, MOST}) {
            Sentence.due("raid(" + bad + ", 0, 1)", x.raid(bad, 0, 1), Checks.BAD);
            Sentence.due("raid(" + bad + ", 0, 1), no pavement", none.raid(bad, 0, 1), Checks.BAD);
        }
        for (int bad : new int[] {LEAST, -1, 0, 11, MOST}) {
            Sentence.due("raid(0, 0, " + bad + ")", x.raid(0, 0, bad), Checks.BAD);
            Sentence.due("raid(0, 0, " + bad + "), no pavement", none.raid(0, 0, bad), Checks.BAD);
            Sentence.due("raid(1, 0, " + bad + "), missing", x.raid(1, 0, bad), Checks.BAD);
            Sentence.due("raid(0, 99, " + bad + ")", x.raid(0, 99, bad), Checks.BAD);
        }
        Sentence.due("no pavement", none.raid(0, 0, 1), Checks.STATE);
        Sentence.due("no pavement, missing", none.raid(1, 0, 1), Checks.STATE);
        Sentence.due("no pavement, no such place", none.raid(0, 12, 1), Checks.STATE);
        Sentence.due("missing", x.raid(1, 0, 1), Checks.NULL);
        Sentence.due("missing, no such place", x.raid(1, -1, 1), Checks.NULL);
        Sentence.due("place -1", x.raid(0, -1, 1), Checks.PLACE);
        Sentence.due("place 12", x.raid(0, 12, 1), Checks.PLACE);
        Sentence.due("place 11", x.raid(0, 11, 1), 1);
        Sentence.due("two from place 11 on", x.raid(0, 11, 2), Checks.PLACE);
        Sentence.due("ten from place 3 on", x.raid(0, 3, 10), Checks.PLACE);
        for (int far : new int[] {LEAST, MOST, MOST - 9, MOST - 8}) {
            Sentence.due("place " + far, x.raid(0, far, 10), Checks.PLACE);
        }
        x.row(2, 0, 0);
        Sentence.due("of none", x.raid(2, 0, 1), Checks.PLACE);
    }

    private static void aRouteIsRefused() {
        StringsSheet x = Checks.on(ALL);
        x.row(0, 2, 3);
        for (int bad : new int[] {LEAST, -1, 5, 7, 256, MOST}) {
            x.set(0, 0, bad);
            Sentence.due("item " + bad, x.raid(0, 0, 1), Checks.BAD);
            Sentence.due("a wrong place goes ahead of item " + bad, x.raid(0, 0, 4), Checks.PLACE);
            x.set(0, 0, 0);
            x.set(0, 1, bad);
            Sentence.due("item " + bad + " as the second one", x.raid(0, 0, 2), Checks.BAD);
            Sentence.due("a wrong item beyond the route", x.raid(0, 0, 1), 1);
        }
        x.set(0, 1, 1);
        x.set(0, 2, 3);
        Sentence.due("no street", x.raid(0, 0, 3), Checks.BAD);
        Sentence.due("no street", x.raid(0, 1, 2), Checks.BAD);
        Sentence.due("up to there", x.raid(0, 0, 2), 3);
        x.set(0, 2, 1);
        Sentence.due("the same again", x.raid(0, 0, 3), Checks.BAD);
    }

    private static void aRaidOfTwoByItems() {
        Sentence.says(14, "A RAID from TWO sides: n CORNERS (1 to 10) from i on, and as many from j on of the same ROW: "
            + "CAUGHT (bits).");
        StringsSheet x = Checks.on(ALL);
        Checks.items(x, 0, 0, 1, 2, 3, 4, 3, 2, 1, 2, 1, 0, 1, 2, 3, 4);
        Sentence.due("one and one", x.two(0, 0, 14, 1), 17);
        Sentence.due("two and two", x.two(0, 0, 5, 2), 15);
        Sentence.due("two and two, partly the same items", x.two(0, 1, 2, 2), 14);
        Sentence.due("nine and nine", x.two(0, 5, 5, 9), 15);
        Sentence.due("ten and ten, one too far", x.two(0, 4, 5, 10), Checks.BAD);
        Checks.items(x, 1, 0, 1, 2, 3, 2, 1, 0, 1, 2, 3, 2);
        Sentence.due("ten and ten", x.two(1, 0, 1, 10), 15);
        Sentence.due("ten and ten", x.two(1, 1, 0, 10), 15);
    }

    private static void aRaidOfTwoIsRefused() {
        Sentence.says(14, "As raid().");
        StringsSheet none = new StringsSheet();
        none.row(0, 0, 12);
        StringsSheet x = Checks.on(ALL);
        x.row(0, 0, 12);
        for (int bad : new int[] {LEAST, -1, 8, MOST}) {
            Sentence.due("two(" + bad + ", ..)", x.two(bad, 0, 0, 1), Checks.BAD);
            Sentence.due("two(" + bad + ", ..), no pavement", none.two(bad, 0, 0, 1), Checks.BAD);
        }
        for (int bad : new int[] {LEAST, -1, 0, 11, MOST}) {
            Sentence.due("two(.., " + bad + ")", x.two(0, 0, 0, bad), Checks.BAD);
            Sentence.due("two(.., " + bad + "), no pavement", none.two(0, 0, 0, bad), Checks.BAD);
            Sentence.due("two(.., " + bad + "), missing", x.two(1, 0, 0, bad), Checks.BAD);
        }
        Sentence.due("no pavement", none.two(0, 0, 0, 1), Checks.STATE);
        Sentence.due("no pavement, missing", none.two(1, 0, 0, 1), Checks.STATE);
        Sentence.due("missing", x.two(1, 99, 99, 1), Checks.NULL);
        for (int far : new int[] {LEAST, -1, 12, MOST, MOST - 9}) {
            Sentence.due("i " + far, x.two(0, far, 0, 1), Checks.PLACE);
            Sentence.due("j " + far, x.two(0, 0, far, 1), Checks.PLACE);
        }
        Sentence.due("the last of both", x.two(0, 11, 11, 1), 1);
        Sentence.due("one beyond by i", x.two(0, 11, 10, 2), Checks.PLACE);
        Sentence.due("one beyond by j", x.two(0, 10, 11, 2), Checks.PLACE);
        x.set(0, 0, 5);
        Sentence.due("an item of the first", x.two(0, 0, 1, 1), Checks.BAD);
        Sentence.due("an item of the second", x.two(0, 1, 0, 1), Checks.BAD);
        Sentence.due("a wrong j goes ahead of a wrong item", x.two(0, 0, 12, 1), Checks.PLACE);
        x.set(0, 0, 1);
        x.set(0, 3, 2);
        Sentence.due("no street of the first", x.two(0, 2, 0, 2), Checks.BAD);
        Sentence.due("no street of the second", x.two(0, 0, 2, 2), Checks.BAD);
        Sentence.due("the latest raid is the one that was", x.after(0, 1), 0);
    }

    private static void whatIsToldAfter() {
        Sentence.says(15, "Of the latest RAID of this PAVEMENT, for a SELLER: 0 the minute WARNED (NONE), 1 the minute the "
            + "RAID is AT its CORNER (NONE), 2 whether it STANDS (0), FLED (1), is CAUGHT (2), 3 GONE (0, if it did not "
            + "flee); for all (SELLER -1): 4 LOST in all.");
        StringsSheet x = Checks.on(LINE + "goods 3 20 10;goods 5 7 1;seller 0 3;seller 1 0;seller 0 4;seller 1 2;seller 0 1;"
            + "watcher 0;" + PASS2);
        Checks.raid(x, 0, 1, 2);
        after(x, 0, 6, Checks.NONE, FLED, 8);
        after(x, 1, 0, 0, CAUGHT, 0);
        after(x, 2, Checks.NONE, Checks.NONE, STANDS, 0);
        after(x, 3, 4, 8, CAUGHT, 0);
        after(x, 4, 2, 4, CAUGHT, 0);
        Sentence.due("LOST in all", x.after(-1, 4), 8 + 8 + 30);
        Checks.raid(x, 4);
        after(x, 2, Checks.NONE, 0, CAUGHT, 0);
        after(x, 1, Checks.NONE, Checks.NONE, STANDS, 0);
        Sentence.due("LOST in all of the latest", x.after(-1, 4), 30);
        // A raid has been: who moves later changes nothing of it.
        x.goes(2, 0);
        x.watch(0, 4);
        after(x, 2, Checks.NONE, 0, CAUGHT, 0);
        Sentence.due("LOST in all of the latest", x.after(-1, 4), 30);
        x.raid(7, 0, 2);
        x.raid(7, 1, 1);
        Sentence.due("a refused one is not the latest", x.after(-1, 4), 30);
    }

    private static void whatIsRefusedAfter() {
        Sentence.says(15, "BAD; STATE: there was none.");
        StringsSheet none = new StringsSheet();
        Sentence.due("no pavement", none.after(-1, 4), Checks.STATE);
        Sentence.due("no pavement, no seller", none.after(0, 0), Checks.BAD);
        StringsSheet x = Checks.on(ALL);
        for (int raids = 0; raids < 2; raids++) {
            for (int bad : new int[] {LEAST, -1, 4, 5, MOST}) {
                Sentence.due("after(0, " + bad + ")", x.after(0, bad), Checks.BAD);
            }
            for (int bad : new int[] {LEAST, -2, -1, 5, MOST}) {
                Sentence.due("after(" + bad + ", 0)", x.after(bad, 0), Checks.BAD);
                Sentence.due("after(" + bad + ", 3)", x.after(bad, 3), Checks.BAD);
            }
            for (int bad : new int[] {LEAST, -2, 0, 4, 5, MOST}) {
                Sentence.due("after(" + bad + ", 4)", x.after(bad, 4), Checks.BAD);
            }
            Sentence.due("after(-1, 5)", x.after(-1, 5), Checks.BAD);
            Sentence.due("after(4, 2)", x.after(4, 2), raids == 0 ? Checks.STATE : CAUGHT);
            Sentence.due("after(-1, 4)", x.after(-1, 4), raids == 0 ? Checks.STATE : 1);
            Sentence.due("caught", Checks.raid(x, 4), 16);
        }
        Checks.feed(x, ALL);
        x.pavement();
        Sentence.due("none of this pavement", x.after(0, 0), Checks.STATE);
        Sentence.due("none of this pavement", x.after(-1, 4), Checks.STATE);
        x.raid(7, 9, 1);
        Sentence.due("a refused one is none", x.after(0, 0), Checks.STATE);
    }

    private static void whistlesForNothing() {
        Sentence.says(16, "A whistle for nothing of a WATCHER: minutes that all SELLERS who hear it do not sell, added.");
        StringsSheet x = Checks.on(LINE + "goods 1 1 0;goods 9 1 0;seller 0 0;seller 1 3;seller 0 4;watcher 1;watcher 4;law 0 30 9;");
        Sentence.due("two hear it", x.nothing(0), 31 + 39);
        Sentence.due("one hears it", x.nothing(1), 31);
        Sentence.due("it is no raid", x.after(-1, 4), Checks.STATE);
        x.goes(2, 2);
        Sentence.due("all hear it", x.nothing(0), 31 + 39 + 31);
        Sentence.due("nobody hears it", x.nothing(1), 0);
        Sentence.due("nobody is there", Checks.on("corner 1;goods 1 1 1;watcher 0;").nothing(0), 0);
        Sentence.due("FOLD 1, QUIET 0", Checks.on("corner 1;goods 1 1 1;seller 0 0;watcher 0;law 0 0 1;").nothing(0), 1);
        StringsSheet five = Checks.on("corner 1;goods 9 1 1;" + "seller 0 0;".repeat(5) + "watcher 0;law 0 30 1;");
        Sentence.due("the most", five.nothing(0), 195);
        Sentence.says(16, "BAD.");
        for (int bad : new int[] {LEAST, -1, 2, 4, MOST}) {
            Sentence.due("nothing(" + bad + ")", x.nothing(bad), Checks.BAD);
        }
        Sentence.due("no pavement", new StringsSheet().nothing(0), Checks.BAD);
        Sentence.due("no watcher", Checks.on(ALL).nothing(0), Checks.BAD);
    }

    private static void theLatestIsKept() {
        Sentence.says(17, "The latest RAID is kept as a DAY: how many there are.");
        StringsSheet x = Checks.on(ALL);
        Checks.raid(x, 0);
        Checks.raid(x, 1);
        Sentence.due("the first day", x.keep(), 1);
        fraction(x, 0, 1, 3);
        fraction(x, 1, 2, 3);
        Checks.raid(x, 2);
        x.two(7, 0, 0, 1);
        x.raid(7, 0, 1);
        Sentence.due("the second day", x.keep(), 2);
        fraction(x, 2, 1, 2);
        Sentence.due("days", x.count(7), 2);
        Checks.raid(x, 3);
        x.raid(7, 0, 9);
        x.raid(7, 1, 1);
        Sentence.due("refused ones do not count", x.keep(), 3);
    }

    private static void keepIsRefused() {
        Sentence.says(17, "STATE: there was none, or it was of two, or it is kept already; FULL.");
        Sentence.due("no pavement", new StringsSheet().keep(), Checks.STATE);
        StringsSheet x = Checks.on(ALL);
        Sentence.due("there was none", x.keep(), Checks.STATE);
        Checks.items(x, 7, 0);
        x.two(7, 0, 0, 1);
        Sentence.due("it was of two", x.keep(), Checks.STATE);
        x.raid(7, 0, 1);
        Sentence.due("kept", x.keep(), 1);
        Sentence.due("it is kept already", x.keep(), Checks.STATE);
        Sentence.due("it is kept already", x.keep(), Checks.STATE);
        x.two(7, 0, 0, 1);
        Sentence.due("it was of two", x.keep(), Checks.STATE);
        for (int day = 2; day <= 12; day++) {
            x.raid(7, 0, 1);
            Sentence.due("kept", x.keep(), day);
        }
        Sentence.due("kept already, and full", x.keep(), Checks.STATE);
        x.two(7, 0, 0, 1);
        Sentence.due("of two, and full", x.keep(), Checks.STATE);
        x.raid(7, 0, 1);
        Sentence.due("full", x.keep(), Checks.FULL);
        Sentence.due("full again", x.keep(), Checks.FULL);
        Checks.feed(x, ALL);
        x.pavement();
        Sentence.due("none on a new pavement", x.keep(), Checks.STATE);
        x.raid(7, 0, 1);
        Sentence.due("there is room on a new pavement", x.keep(), 1);
    }

    private static void fearedIsAsked() {
        Sentence.says(18, "FEARED of a CORNER: above (what = 0), below (1).");
        StringsSheet x = Checks.on(ALL);
        fraction(x, 0, 1, 2);
        fraction(x, 4, 1, 2);
        Sentence.says(18, "BAD.");
        for (int bad : new int[] {LEAST, -1, 5, 7, MOST}) {
            Sentence.due("feared(" + bad + ", 0)", x.feared(bad, 0), Checks.BAD);
        }
        for (int bad : new int[] {LEAST, -1, 2, MOST}) {
            Sentence.due("feared(0, " + bad + ")", x.feared(0, bad), Checks.BAD);
        }
        Sentence.due("no pavement", new StringsSheet().feared(0, 0), Checks.BAD);
    }
}
