/** Promises 2 to 5 and 41: rows, and the status of the latest call with one. */
public final class RowsTest {
    public static void main(String[] args) {
        rowsAreLaid();
        itemsAreCutToTheirLane();
        itemsAreCopiedAsTheyWereAhead();
        copiesAreRefused();
        rowsAreDropped();
        statusIsOfTheLatestFinding();
        Checks.end();
    }

    private static void rowsAreLaid() {
        StringsSheet x = new StringsSheet();
        Checks.due("row(0, 0, 0)", x.row(0, 0, 0), 0);
        Checks.due("row(7, 2, 40)", x.row(7, 2, 40), 40);
        Checks.due("count(0)", x.count(0), 2);
        Checks.due("row(7, 1, 3)", x.row(7, 1, 3), 3);
        Checks.due("count(0)", x.count(0), 2);
        Checks.due("row(-1, 0, 1)", x.row(-1, 0, 1), Checks.BAD);
        Checks.due("row(8, 0, 1)", x.row(8, 0, 1), Checks.BAD);
        Checks.due("row(0, -1, 1)", x.row(0, -1, 1), Checks.BAD);
        Checks.due("row(0, 3, 1)", x.row(0, 3, 1), Checks.BAD);
        Checks.due("row(0, 0, 41)", x.row(0, 0, 41), Checks.BAD);
        Checks.due("row(0, 3, -1)", x.row(0, 3, -1), Checks.BAD);
        Checks.due("row(0, 2, -1)", x.row(0, 2, -1), Checks.SIZE);
        Checks.due("row(0, 2, least)", x.row(0, 2, Integer.MIN_VALUE), Checks.SIZE);
        Checks.due("the row refused is as it was", x.set(7, 2, 5), 5);
        Checks.due("the row refused is as it was", x.set(7, 3, 5), Checks.PLACE);
        aNewRowHasZeroes();
    }

    private static void aNewRowHasZeroes() {
        StringsSheet x = Checks.on("corner 1;goods 1 1 1;");
        Checks.items(x, 0, 5, 5, 5);
        Checks.due("raid by 5", x.raid(0, 1, 1), Checks.BAD);
        x.row(0, 0, 3);
        for (int i = 0; i < 3; i++) {
            Checks.due("raid by 0", x.raid(0, i, 1), 0);
        }
    }

    private static void itemsAreCutToTheirLane() {
        StringsSheet x = new StringsSheet();
        for (int lane = 0; lane < 3; lane++) {
            x.row(lane, lane, 2);
        }
        Checks.due("byte 127", x.set(0, 0, 127), 127);
        Checks.due("byte 128", x.set(0, 0, 128), -128);
        Checks.due("byte 255", x.set(0, 1, 255), -1);
        Checks.due("byte 256", x.set(0, 1, 256), 0);
        Checks.due("byte -129", x.set(0, 1, -129), 127);
        Checks.due("short 32767", x.set(1, 0, 32767), 32767);
        Checks.due("short 32768", x.set(1, 0, 32768), -32768);
        Checks.due("short 65541", x.set(1, 1, 65541), 5);
        Checks.due("int least", x.set(2, 0, Integer.MIN_VALUE), Integer.MIN_VALUE);
        Checks.due("int greatest", x.set(2, 1, Integer.MAX_VALUE), Integer.MAX_VALUE);
        Checks.due("set(8, 0, 0)", x.set(8, 0, 0), Checks.BAD);
        Checks.due("set(-1, 0, 0)", x.set(-1, 0, 0), Checks.BAD);
        Checks.due("set(3, 0, 0)", x.set(3, 0, 0), Checks.NULL);
        Checks.due("set(3, 9, 0)", x.set(3, 9, 0), Checks.NULL);
        Checks.due("set(0, 2, 0)", x.set(0, 2, 0), Checks.PLACE);
        Checks.due("set(0, -1, 0)", x.set(0, -1, 0), Checks.PLACE);
        x.row(4, 0, 0);
        Checks.due("set(4, 0, 0)", x.set(4, 0, 0), Checks.PLACE);
    }

    private static void itemsAreCopiedAsTheyWereAhead() {
        StringsSheet x = Checks.on("corner 1;corner 1;corner 1;street 0 1 1;street 1 2 1;goods 1 1 1;");
        Checks.items(x, 0, 0, 1, 2, 1);
        Checks.due("onwards within a row", x.copy(0, 0, 0, 1, 3), 3);
        Checks.due("0 0 1 2: from 1 on", x.raid(0, 1, 3), 0);
        Checks.due("0 0 1 2: from 0 on", x.raid(0, 0, 2), Checks.BAD);
        Checks.items(x, 1, 5, 0, 1, 2);
        Checks.due("backwards within a row", x.copy(1, 1, 1, 0, 3), 3);
        Checks.due("0 1 2 2: from 0 on", x.raid(1, 0, 3), 0);
        Checks.due("0 1 2 2: from 2 on", x.raid(1, 2, 2), Checks.BAD);
        x.row(2, 0, 40);
        Checks.due("to another row", x.copy(0, 1, 2, 37, 3), 3);
        Checks.due("0 1 2 at its end", x.raid(2, 37, 3), 0);
        Checks.due("none, at both ends", x.copy(0, 4, 2, 40, 0), 0);
    }

    private static void copiesAreRefused() {
        StringsSheet x = new StringsSheet();
        x.row(0, 0, 4);
        x.row(1, 0, 3);
        x.row(2, 1, 4);
        Checks.due("copy(8, ..)", x.copy(8, 0, 0, 0, 1), Checks.BAD);
        Checks.due("copy(.., -1, ..)", x.copy(0, 0, -1, 0, 1), Checks.BAD);
        Checks.due("copy(3, .., 8, ..)", x.copy(3, 0, 8, 0, 1), Checks.BAD);
        Checks.due("from a missing one", x.copy(3, 0, 0, 0, 1), Checks.NULL);
        Checks.due("to a missing one", x.copy(0, 0, 3, 0, 1), Checks.NULL);
        Checks.due("of two lanes", x.copy(0, 0, 2, 0, 1), Checks.STORE);
        Checks.due("of two lanes, beyond", x.copy(0, 9, 2, 0, 1), Checks.STORE);
        Checks.due("of two lanes, none", x.copy(0, 0, 2, 0, 0), Checks.STORE);
        Checks.due("i below 0", x.copy(0, -1, 1, 0, 1), Checks.PLACE);
        Checks.due("j below 0", x.copy(0, 0, 1, -1, 1), Checks.PLACE);
        Checks.due("n below 0", x.copy(0, 0, 1, 0, -1), Checks.PLACE);
        Checks.due("beyond the first", x.copy(0, 2, 0, 0, 3), Checks.PLACE);
        Checks.due("beyond the second", x.copy(0, 0, 1, 0, 4), Checks.PLACE);
        int most = Integer.MAX_VALUE;
        Checks.due("far beyond", x.copy(0, most, 1, most, most), Checks.PLACE);
        Checks.due("far beyond", x.copy(0, 1, 1, 1, most), Checks.PLACE);
    }

    private static void rowsAreDropped() {
        StringsSheet x = new StringsSheet();
        x.row(0, 0, 4);
        x.row(1, 0, 0);
        Checks.due("drop(-1)", x.drop(-1), Checks.BAD);
        Checks.due("drop(8)", x.drop(8), Checks.BAD);
        Checks.due("drop(2)", x.drop(2), Checks.NULL);
        Checks.due("drop(0)", x.drop(0), 4);
        Checks.due("drop(0) again", x.drop(0), Checks.NULL);
        Checks.due("set of it", x.set(0, 0, 0), Checks.NULL);
        Checks.due("drop(1)", x.drop(1), 0);
        Checks.due("count(0)", x.count(0), 0);
    }

    private static void statusIsOfTheLatestFinding() {
        StringsSheet x = new StringsSheet();
        Checks.due("at first", x.status(), 0);
        x.row(0, 0, -1);
        Checks.due("SIZE", x.status(), 4);
        x.row(0, 9, 1);
        Checks.due("SIZE, behind BAD", x.status(), 4);
        x.row(0, 0, 2);
        Checks.due("none", x.status(), 0);
        x.drop(3);
        Checks.due("NULL", x.status(), 1);
        x.raid(0, 0, 1);
        Checks.due("NULL, behind STATE", x.status(), 1);
        x.feed(1, 9);
        x.count(0);
        Checks.due("NULL, behind calls without a row", x.status(), 1);
        x.set(0, 2, 0);
        Checks.due("PLACE", x.status(), 2);
        x.row(1, 1, 2);
        x.copy(0, 0, 1, 0, 1);
        Checks.due("STORE", x.status(), 5);
        Checks.feed(x, "corner 1;goods 1 1 1;seller 0 0;");
        x.pavement();
        Checks.due("STORE, behind pavement()", x.status(), 5);
        x.set(0, 0, 9);
        x.copy(0, 0, 1, 0, 1);
        x.raid(0, 0, 1);
        Checks.due("STORE, behind a route that is BAD", x.status(), 5);
        x.raid(0, 2, 1);
        Checks.due("PLACE of raid()", x.status(), 2);
        x.raid(5, 2, 1);
        Checks.due("NULL of raid()", x.status(), 1);
        x.as(0, 3);
        Checks.due("KIND", x.status(), 3);
        x.as(0, 5);
        Checks.due("KIND, behind BAD", x.status(), 3);
        x.ask(0, 0);
        x.kind(0);
        Checks.due("KIND, behind ask() and kind()", x.status(), 3);
        x.as(0, 1);
        Checks.due("none of as()", x.status(), 0);
        x.two(0, 0, 2, 1);
        Checks.due("PLACE of two()", x.status(), 2);
        x.set(0, 0, 0);
        Checks.due("none of set()", x.status(), 0);
        x.drop(6);
        x.raid(0, 0, 1);
        Checks.due("none of raid()", x.status(), 0);
    }
}
