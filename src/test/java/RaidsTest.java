/** Promises 13 to 18: raids by one route and by two, what they did, whistles for nothing, days. */
public final class RaidsTest {
    // A line 0 -4- 1 -4- 2 -4- 3, and 4 by itself; a whistle passes a street in two minutes.
    private static final String LINE = "corner 9;corner 9;corner 9;corner 9;corner 9;"
        + "street 0 1 4;street 1 2 4;street 2 3 4;goods 2 50 30;goods 9 7 0;";

    public static void main(String[] args) {
        warnedFledAndCaught();
        theEdgeOfTheFold();
        nobodyWhistles();
        theFirstTimeCounts();
        fromTwoSides();
        refusals();
        whatARaidDidStays();
        whatARaidSavedStays();
        whistlesForNothing();
        daysAreKept();
        Checks.end();
    }

    private static void after(StringsSheet x, int seller, long... told) {
        for (int what = 0; what < 4; what++) {
            Checks.due("after(" + seller + ", " + what + ")", x.after(seller, what), told[what]);
        }
    }

    private static void warnedFledAndCaught() {
        StringsSheet x = Checks.on(LINE + "seller 0 2;seller 1 2;seller 0 0;seller 0 4;seller 1 3;watcher 1;law 0 10 2;");
        // The watcher sees the raid at minute 4; at corner 2 that is heard at 6, at 0 at 6, at 3 at 8.
        Checks.due("caught", Checks.raid(x, 0, 1, 2), 2 + 4);
        after(x, 0, 6, 8, 1, 12);
        after(x, 1, 6, 8, 2, 0);
        after(x, 2, 6, 0, 2, 0);
        after(x, 3, Checks.NONE, Checks.NONE, 0, 0);
        after(x, 4, 8, Checks.NONE, 1, 19);
        Checks.due("lost in all", x.after(-1, 4), 7 + 80);
        Checks.due("a raid at the watcher", Checks.raid(x, 1), 0);
        after(x, 0, 2, Checks.NONE, 1, 12);
        Checks.due("nothing lost", x.after(-1, 4), 0);
    }

    private static void theEdgeOfTheFold() {
        // Warned at 4 + 2, there at 8: folded up in 2 minutes it is just gone, in 3 it is not.
        StringsSheet x = Checks.on("corner 9;corner 9;corner 9;street 0 1 4;street 1 2 4;"
            + "goods 2 1 1;goods 3 1 1;seller 0 2;seller 1 2;watcher 1;law 0 0 2;");
        Checks.due("caught", Checks.raid(x, 0, 1, 2), 2);
        after(x, 0, 6, 8, 1, 2);
        after(x, 1, 6, 8, 2, 0);
    }

    private static void nobodyWhistles() {
        StringsSheet x = Checks.on(LINE + "seller 0 2;seller 1 3;watcher 0;watcher 4;");
        Checks.due("a raid that no watcher sees", Checks.raid(x, 1, 2), 1);
        after(x, 0, Checks.NONE, 4, 2, 0);
        after(x, 1, Checks.NONE, Checks.NONE, 0, 0);
        Checks.due("a raid at one whom nobody hears", Checks.raid(x, 4), 0);
        after(x, 0, Checks.NONE, Checks.NONE, 0, 0);
    }

    private static void theFirstTimeCounts() {
        StringsSheet x = Checks.on(LINE + "seller 0 1;watcher 3;");
        Checks.due("there and back", Checks.raid(x, 0, 1, 0, 1, 2, 3), 1);
        after(x, 0, 20 + 4, 4, 2, 0);
        Checks.due("the shorter of two streets", Checks.raid(Checks.on(
            "corner 1;corner 1;street 0 1 9;street 0 1 3;goods 1 1 1;seller 0 1;"), 0, 1), 1);
    }

    private static void fromTwoSides() {
        StringsSheet x = Checks.on(LINE + "seller 0 1;seller 0 2;watcher 0;watcher 3;law 0 5 2;");
        Checks.items(x, 0, 0, 1, 3, 2);
        Checks.due("from 0 alone", x.raid(0, 0, 2), 0);
        after(x, 1, 4, Checks.NONE, 1, 7);
        Checks.due("from 3 alone", x.raid(0, 2, 2), 0);
        after(x, 1, 2, 4, 1, 7);
        Checks.due("from both", x.two(0, 0, 2, 2), 0);
        after(x, 0, 2, 4, 1, 7);
        after(x, 1, 2, 4, 1, 7);
        Checks.due("from 1 and 3", x.two(0, 1, 2, 1), 1);
        after(x, 0, 4, 0, 2, 0);
        Checks.due("a raid of two is not kept", x.keep(), Checks.STATE);
        Checks.due("by the same route twice", x.two(0, 1, 1, 1), 1);
        Checks.due("it is one of two all the same", x.keep(), Checks.STATE);
    }

    private static void refusals() {
        StringsSheet none = new StringsSheet();
        none.row(0, 0, 3);
        Checks.due("no row, no pavement", none.raid(-1, 0, 1), Checks.BAD);
        Checks.due("n, no pavement", none.raid(0, 0, 0), Checks.BAD);
        Checks.due("no pavement", none.raid(0, 0, 1), Checks.STATE);
        Checks.due("no pavement, a missing row", none.two(1, 0, 0, 1), Checks.STATE);
        StringsSheet x = Checks.on(LINE + "seller 0 1;");
        Checks.items(x, 0, 0, 1, 2, 4, 5, -1, 2, 2);
        Checks.due("no row", x.raid(8, 0, 1), Checks.BAD);
        Checks.due("n 0", x.raid(0, 0, 0), Checks.BAD);
        Checks.due("n 11", x.raid(1, 0, 11), Checks.BAD);
        Checks.due("a missing row", x.raid(1, -1, 1), Checks.NULL);
        Checks.due("i below 0", x.raid(0, -1, 1), Checks.PLACE);
        Checks.due("beyond the end", x.raid(0, 7, 2), Checks.PLACE);
        Checks.due("far beyond", x.raid(0, Integer.MAX_VALUE, 10), Checks.PLACE);
        Checks.due("no such corner", x.raid(0, 4, 1), Checks.BAD);
        Checks.due("no such corner", x.raid(0, 5, 1), Checks.BAD);
        Checks.due("no street", x.raid(0, 2, 2), Checks.BAD);
        Checks.due("no street to itself", x.raid(0, 6, 2), Checks.BAD);
        Checks.due("i, of two", x.two(0, -1, 0, 1), Checks.PLACE);
        Checks.due("j, of two", x.two(0, 0, 8, 1), Checks.PLACE);
        Checks.due("a wrong place goes ahead of a wrong item", x.two(0, 4, 8, 1), Checks.PLACE);
        Checks.due("the first route", x.two(0, 2, 0, 2), Checks.BAD);
        Checks.due("the second route", x.two(0, 0, 2, 2), Checks.BAD);
        Checks.due("n, of two", x.two(0, 0, 0, 11), Checks.BAD);
        Checks.due("none was a raid", x.after(-1, 4), Checks.STATE);
        Checks.due("none was a raid", x.after(0, 0), Checks.STATE);
        Checks.due("no such seller goes ahead", x.after(1, 0), Checks.BAD);
        Checks.due("a route of ten", Checks.raid(x, 0, 1, 0, 1, 0, 1, 0, 1, 0, 1), 1);
        Checks.due("all sellers, not LOST", x.after(-1, 0), Checks.BAD);
        Checks.due("all sellers, not LOST", x.after(-1, 3), Checks.BAD);
        Checks.due("one seller, LOST", x.after(0, 4), Checks.BAD);
        Checks.due("what", x.after(0, -1), Checks.BAD);
        Checks.due("what", x.after(0, 5), Checks.BAD);
        Checks.due("no such seller", x.after(-2, 4), Checks.BAD);
        x.raid(0, 4, 1);
        Checks.due("a refused one is not the latest", x.after(0, 1), 4);
    }

    /** As the document is read here: who moves later changes nothing of a raid. */
    private static void whatARaidDidStays() {
        StringsSheet x = Checks.on(LINE + "seller 0 1;watcher 0;law 0 5 2;");
        Checks.due("caught without a whistle", Checks.raid(x, 2, 1), 1);
        x.goes(0, 3);
        x.watch(0, 3);
        after(x, 0, Checks.NONE, 4, 2, 0);
        Checks.due("lost", x.after(-1, 4), 80);
    }

    /** As the document is read here: a day keeps what was saved when the raid walked. */
    private static void whatARaidSavedStays() {
        StringsSheet x = Checks.on(LINE + "seller 0 1;watcher 0;law 0 5 2;");
        Checks.due("warned in time", Checks.raid(x, 0, 1), 0);
        x.watch(0, 3);
        x.keep();
        Checks.due("saved by a watcher who left later", x.saved(0, 0), 80);
        Checks.due("caught", Checks.raid(x, 0, 1), 1);
        x.watch(0, 0);
        x.keep();
        Checks.due("saved nothing by one who came later", x.saved(0, 0), 80);
        Checks.due("warned in time", Checks.raid(x, 0, 1), 0);
        x.goes(0, 4);
        x.keep();
        Checks.due("saved for a seller who went later", x.saved(0, 0), 160);
    }

    private static void whistlesForNothing() {
        StringsSheet x = Checks.on(LINE + "seller 0 2;seller 1 0;seller 0 4;watcher 3;watcher 4;");
        Checks.due("by two of three", x.nothing(0), 2 + 11 + 9 + 11);
        Checks.due("by the third", x.nothing(1), 2 + 11);
        x.watch(1, 0);
        Checks.due("from elsewhere", x.nothing(1), 2 + 11 + 9 + 11);
        x.goes(1, 4);
        Checks.due("when one is elsewhere", x.nothing(1), 2 + 11);
        Checks.due("no such watcher", x.nothing(2), Checks.BAD);
        Checks.due("no such watcher", x.nothing(-1), Checks.BAD);
        Checks.due("no pavement", new StringsSheet().nothing(0), Checks.BAD);
        Checks.due("it is no raid", x.after(-1, 4), Checks.STATE);
    }

    private static void feared(StringsSheet x, int corner, int above, int below) {
        Checks.due("feared(" + corner + ", 0)", x.feared(corner, 0), above);
        Checks.due("feared(" + corner + ", 1)", x.feared(corner, 1), below);
    }

    private static void daysAreKept() {
        Checks.due("no pavement", new StringsSheet().keep(), Checks.STATE);
        StringsSheet x = Checks.on(LINE);
        feared(x, 0, 1, 2);
        Checks.due("no raid", x.keep(), Checks.STATE);
        Checks.raid(x, 0, 1, 0);
        Checks.due("kept", x.keep(), 1);
        Checks.due("kept already", x.keep(), Checks.STATE);
        feared(x, 0, 2, 3);
        feared(x, 2, 1, 3);
        Checks.raid(x, 1);
        Checks.due("kept", x.keep(), 2);
        feared(x, 0, 1, 2);
        feared(x, 1, 3, 4);
        feared(x, 4, 1, 4);
        for (int day = 3; day <= 12; day++) {
            Checks.raid(x, 4);
            Checks.due("kept", x.keep(), day);
        }
        Checks.due("kept already", x.keep(), Checks.STATE);
        Checks.raid(x, 4);
        Checks.due("no room", x.keep(), Checks.FULL);
        Checks.due("days", x.count(7), 12);
        feared(x, 4, 11, 14);
        feared(x, 1, 3, 14);
        Checks.due("no such corner", x.feared(5, 0), Checks.BAD);
        Checks.due("no such corner", x.feared(-1, 0), Checks.BAD);
        Checks.due("what", x.feared(0, 2), Checks.BAD);
        Checks.due("no pavement", new StringsSheet().feared(0, 0), Checks.BAD);
    }
}
