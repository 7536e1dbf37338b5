/** Promises 9, 10, 12 and 28: walks, whistles, moves, ways of escape. */
public final class WaysTest {
    public static void main(String[] args) {
        walksAndWhistles();
        theShorterStreetHolds();
        sellersAndWatchersMove();
        waysThatShareNoCorner();
        Checks.end();
    }

    private static void walksAndWhistles() {
        // Over 1: 4 and 4 long, two minutes each; straight: 7 long, three minutes.
        StringsSheet x = Checks.on("corner 1;corner 1;corner 1;corner 1;"
            + "street 0 1 4;street 1 2 4;street 0 2 7;goods 1 1 1;");
        Checks.due("walk straight", x.walk(0, 2, 0), 7);
        Checks.due("heard straight", x.walk(0, 2, 1), 3);
        Checks.due("walk back", x.walk(2, 0, 0), 7);
        Checks.due("heard back", x.walk(2, 0, 1), 3);
        Checks.due("walk to itself", x.walk(3, 3, 0), 0);
        Checks.due("heard by itself", x.walk(3, 3, 1), 0);
        Checks.due("no way", x.walk(0, 3, 0), Checks.NONE);
        Checks.due("not heard", x.walk(3, 0, 1), Checks.NONE);
        Checks.due("no such corner", x.walk(0, 4, 0), Checks.BAD);
        Checks.due("no such corner", x.walk(-1, 0, 0), Checks.BAD);
        Checks.due("what", x.walk(0, 1, 2), Checks.BAD);
        Checks.due("what", x.walk(0, 1, -1), Checks.BAD);
        Checks.due("no pavement", new StringsSheet().walk(0, 0, 0), Checks.BAD);
        // By five short streets it is nearer to walk; by one long street it is heard sooner.
        StringsSheet y = Checks.on("corner 1;corner 1;corner 1;corner 1;"
            + "street 0 1 1;street 1 2 1;street 2 3 1;street 0 3 6;goods 1 1 1;law 0 0 9;");
        Checks.due("walk over two", y.walk(0, 3, 0), 3);
        Checks.due("heard along one", y.walk(0, 3, 1), 1);
        Checks.due("heard along two", y.walk(0, 2, 1), 2);
    }

    private static void theShorterStreetHolds() {
        StringsSheet x = Checks.on("corner 1;corner 1;street 0 1 5;street 1 0 3;street 0 1 9;goods 1 1 1;law 0 0 1;");
        Checks.due("walk", x.walk(0, 1, 0), 3);
        Checks.due("walk back", x.walk(1, 0, 0), 3);
        Checks.due("heard", x.walk(1, 0, 1), 3);
        Checks.due("pairs", x.count(2), 1);
    }

    private static void sellersAndWatchersMove() {
        StringsSheet x = Checks.on("corner 1;corner 1;goods 1 1 1;seller 0 1;watcher 0;law 20 0 1;");
        Checks.due("goes", x.goes(0, 0), 1);
        Checks.due("goes back", x.goes(0, 1), 0);
        Checks.due("goes where it is", x.goes(0, 1), 1);
        Checks.due("it is there", x.seller(0, 1), 1);
        Checks.due("no such corner", x.goes(0, 2), Checks.BAD);
        Checks.due("no such corner", x.goes(0, -1), Checks.BAD);
        Checks.due("no such seller", x.goes(1, 0), Checks.BAD);
        Checks.due("no such seller", x.goes(-1, 0), Checks.BAD);
        Checks.due("it is there still", x.seller(0, 1), 1);
        Checks.due("watch", x.watch(0, 1), 0);
        Checks.due("watch back", x.watch(0, 0), 1);
        Checks.due("no such corner", x.watch(0, 2), Checks.BAD);
        Checks.due("no such watcher", x.watch(1, 0), Checks.BAD);
        Checks.due("no such watcher", x.watch(-1, 0), Checks.BAD);
        Checks.due("it watches there still", x.watch(0, 1), 0);
        Checks.due("no pavement", new StringsSheet().watch(0, 0), Checks.BAD);
        Checks.due("no pavement", new StringsSheet().goes(0, 0), Checks.BAD);
    }

    private static void waysThatShareNoCorner() {
        String corners = "corner 1;".repeat(7);
        StringsSheet line = Checks.on(corners + "street 0 1 1;street 1 2 1;goods 1 1 1;");
        Checks.due("a street", line.escapes(0, 1), 1);
        Checks.due("one way", line.escapes(0, 2), 1);
        Checks.due("no way", line.escapes(0, 3), 0);
        Checks.due("alike", line.escapes(1, 1), Checks.BAD);
        Checks.due("no such corner", line.escapes(0, 7), Checks.BAD);
        Checks.due("no such corner", line.escapes(-1, 0), Checks.BAD);
        Checks.due("no pavement", new StringsSheet().escapes(0, 1), Checks.BAD);
        StringsSheet wheel = Checks.on(corners + "street 0 1 1;street 0 2 1;street 0 3 1;street 0 4 1;"
            + "street 0 5 1;street 6 1 1;street 6 2 1;street 6 3 1;street 6 4 1;street 6 5 1;street 0 6 9;"
            + "street 0 6 2;goods 1 1 1;");
        Checks.due("five corners and a street", wheel.escapes(0, 6), 6);
        Checks.due("and back", wheel.escapes(6, 0), 6);
        Checks.due("two of the rim", wheel.escapes(1, 2), 2);
        // The first way found, 0 1 4 3, must be given up for two others.
        StringsSheet crossed = Checks.on(corners + "street 0 1 1;street 0 2 1;street 1 4 1;street 2 4 1;"
            + "street 1 5 1;street 4 3 1;street 5 3 1;goods 1 1 1;");
        Checks.due("crossed", crossed.escapes(0, 3), 2);
        StringsSheet bridge = Checks.on(corners + "street 0 1 1;street 0 2 1;street 1 3 1;street 2 3 1;"
            + "street 3 4 1;street 3 5 1;street 4 6 1;street 5 6 1;goods 1 1 1;");
        Checks.due("all by one corner", bridge.escapes(0, 6), 1);
        Checks.due("to that corner", bridge.escapes(0, 3), 2);
    }
}
