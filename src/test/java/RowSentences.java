/** Promises 2 to 5 and 41, sentence by sentence: rows, and the status of the latest call with one. */
final class RowSentences {
    // Seller k stands at corner k, so that a raid by one item catches the bit of its number.
    static final String FIVE = "corner 9;".repeat(5)
        + "goods 1 1 1;seller 0 0;seller 0 1;seller 0 2;seller 0 3;seller 0 4;";

    private static final int LEAST = Integer.MIN_VALUE;
    private static final int MOST = Integer.MAX_VALUE;

    private RowSentences() {
    }

    static void go() {
        rowsAtFirst();
        aRowIsLaid();
        aRowIsRefused();
        anItemIsCut();
        anItemIsRefused();
        itemsAreCopied();
        aCopyIsRefused();
        aCopyWithinOneRowIsRefused();
        aRowIsDropped();
        aDropIsRefused();
        theStatus();
        theStatusOfRaids();
    }

    private static void items(StringsSheet x, int row, int from, int... items) {
        for (int i = 0; i < items.length; i++) {
            Sentence.due("item " + (from + i) + " of row " + row, x.raid(row, from + i, 1), 1 << items[i]);
        }
    }

    private static void rowsAtFirst() {
        Sentence.says(0, "ROWS 0 .. 7 are missing (at first), or have a LANE (0 bytes, 1 shorts, 2 ints) "
            + "and 0 to 40 ITEMS, 0 at first.");
        StringsSheet x = Checks.on(FIVE);
        Sentence.due("rows at first", x.count(0), 0);
        for (int row = 0; row < 8; row++) {
            Sentence.due("set(" + row + ", 0, 1) at first", x.set(row, 0, 1), Checks.NULL);
        }
        Sentence.due("set(-1, 0, 1)", x.set(-1, 0, 1), Checks.BAD);
        Sentence.due("set(8, 0, 1)", x.set(8, 0, 1), Checks.BAD);
        for (int lane = 0; lane < 3; lane++) {
            Sentence.due("row of 40 in lane " + lane, x.row(lane, lane, 40), 40);
            items(x, lane, 0, new int[40]);
            Sentence.due("no item 40", x.raid(lane, 40, 1), Checks.PLACE);
            Sentence.due("row of 0 in lane " + lane, x.row(5 + lane, lane, 0), 0);
            Sentence.due("no item 0", x.raid(5 + lane, 0, 1), Checks.PLACE);
        }
        Sentence.due("rows", x.count(0), 6);
    }

    private static void aRowIsLaid() {
        Sentence.says(2, "A ROW of a LANE with n ITEMS, in place of what is there: n.");
        StringsSheet x = Checks.on(FIVE);
        Sentence.due("row(0, 0, 40)", x.row(0, 0, 40), 40);
        for (int i = 0; i < 40; i++) {
            x.set(0, i, 3);
        }
        Sentence.due("row(0, 0, 2) in its place", x.row(0, 0, 2), 2);
        items(x, 0, 0, 0, 0);
        Sentence.due("it has two", x.raid(0, 2, 1), Checks.PLACE);
        Sentence.due("row(0, 0, 40) in its place", x.row(0, 0, 40), 40);
        items(x, 0, 0, new int[40]);
        x.set(0, 0, 4);
        Sentence.due("the same again", x.row(0, 0, 40), 40);
        items(x, 0, 0, 0);
        Sentence.due("in another lane", x.row(0, 2, 1), 1);
        Sentence.due("it has that lane", x.set(0, 0, 300), 300);
        Sentence.due("with none", x.row(0, 1, 0), 0);
        Sentence.due("it has none", x.set(0, 0, 1), Checks.PLACE);
        Sentence.due("one row all the time", x.count(0), 1);
        Sentence.due("the first row, the first lane", x.row(0, 0, 1), 1);
        Sentence.due("the last row, the last lane", x.row(7, 2, 1), 1);
        Sentence.due("two rows", x.count(0), 2);
    }

    private static void aRowIsRefused() {
        Sentence.says(2, "BAD: ROW, LANE, n above 40; SIZE.");
        StringsSheet x = new StringsSheet();
        for (int row : new int[] {LEAST, -1, 8, MOST}) {
            Sentence.due("row(" + row + ", 0, 1)", x.row(row, 0, 1), Checks.BAD);
            Sentence.due("row(" + row + ", 0, -1)", x.row(row, 0, -1), Checks.BAD);
        }
        for (int lane : new int[] {LEAST, -1, 3, MOST}) {
            Sentence.due("row(0, " + lane + ", 1)", x.row(0, lane, 1), Checks.BAD);
            Sentence.due("row(0, " + lane + ", -1)", x.row(0, lane, -1), Checks.BAD);
        }
        Sentence.due("row(0, 0, 41)", x.row(0, 0, 41), Checks.BAD);
        Sentence.due("row(0, 0, most)", x.row(0, 0, MOST), Checks.BAD);
        Sentence.due("row(0, 0, -1)", x.row(0, 0, -1), Checks.SIZE);
        Sentence.due("row(7, 2, least)", x.row(7, 2, LEAST), Checks.SIZE);
        Sentence.due("none was laid", x.count(0), 0);
        Sentence.due("40 is not above 40", x.row(0, 0, 40), 40);
        Sentence.due("none is not fewer than none", x.row(1, 0, 0), 0);
        x.row(0, 1, 41);
        x.row(0, 1, -1);
        Sentence.due("the one there stays, with its lane", x.set(0, 39, 128), -128);
    }

    private static void anItemIsCut() {
        Sentence.says(3, "ITEM i becomes v, its lowest bits, as many as the LANE has: what it is then.");
        int[][] bytes = {{127, 127}, {128, -128}, {255, -1}, {256, 0}, {-1, -1}, {-128, -128}, {-129, 127},
            {-256, 0}, {MOST, -1}, {LEAST, 0}, {32768, 0}, {65541, 5}};
        int[][] shorts = {{127, 127}, {128, 128}, {32767, 32767}, {32768, -32768}, {65535, -1}, {65536, 0},
            {-32768, -32768}, {-32769, 32767}, {-65536, 0}, {MOST, -1}, {LEAST, 0}, {65541, 5}};
        int[][] ints = {{128, 128}, {32768, 32768}, {65541, 65541}, {MOST, MOST}, {LEAST, LEAST}, {-1, -1}};
        int[][][] due = {bytes, shorts, ints};
        StringsSheet x = Checks.on(FIVE);
        for (int lane = 0; lane < 3; lane++) {
            x.row(lane, lane, 3);
            for (int[] pair : due[lane]) {
                Sentence.due("set to " + pair[0] + " in lane " + lane, x.set(lane, 2, pair[0]), pair[1]);
            }
        }
        x.set(0, 1, 256 + 3);
        items(x, 0, 0, 0, 3);
        x.set(1, 1, 65536 + 2);
        items(x, 1, 0, 0, 2);
        x.set(2, 1, 65536 + 2);
        Sentence.due("no corner of an int", x.raid(2, 1, 1), Checks.BAD);
        x.set(2, 1, 4);
        items(x, 2, 0, 0, 4);
    }

    private static void anItemIsRefused() {
        Sentence.says(3, "BAD: ROW; NULL; PLACE.");
        StringsSheet x = new StringsSheet();
        x.row(0, 0, 40);
        x.row(1, 0, 1);
        x.row(2, 0, 0);
        for (int row : new int[] {LEAST, -1, 8, MOST}) {
            Sentence.due("set(" + row + ", 0, 1)", x.set(row, 0, 1), Checks.BAD);
            Sentence.due("set(" + row + ", -1, 1)", x.set(row, -1, 1), Checks.BAD);
        }
        Sentence.due("set(3, 0, 1), missing", x.set(3, 0, 1), Checks.NULL);
        Sentence.due("set(3, -1, 1), missing", x.set(3, -1, 1), Checks.NULL);
        Sentence.due("the first of 40", x.set(0, 0, 1), 1);
        Sentence.due("the last of 40", x.set(0, 39, 1), 1);
        Sentence.due("beyond 40", x.set(0, 40, 1), Checks.PLACE);
        Sentence.due("below 0", x.set(0, -1, 1), Checks.PLACE);
        Sentence.due("the only one", x.set(1, 0, 1), 1);
        Sentence.due("beyond 1", x.set(1, 1, 1), Checks.PLACE);
        Sentence.due("far below", x.set(1, LEAST, 1), Checks.PLACE);
        Sentence.due("far beyond", x.set(1, MOST, 1), Checks.PLACE);
        Sentence.due("of none", x.set(2, 0, 1), Checks.PLACE);
        x.drop(0);
        Sentence.due("missing again", x.set(0, 0, 1), Checks.NULL);
    }

    private static void itemsAreCopied() {
        Sentence.says(4, "n ITEMS of a from i on come to b from j on, as they were ahead: n.");
        StringsSheet x = Checks.on(FIVE);
        Checks.items(x, 0, 0, 1, 2, 3, 4);
        Sentence.due("onwards over itself", x.copy(0, 0, 0, 1, 4), 4);
        items(x, 0, 0, 0, 0, 1, 2, 3);
        Checks.items(x, 0, 0, 1, 2, 3, 4);
        Sentence.due("backwards over itself", x.copy(0, 1, 0, 0, 4), 4);
        items(x, 0, 0, 1, 2, 3, 4, 4);
        Sentence.due("all onto itself", x.copy(0, 0, 0, 0, 5), 5);
        items(x, 0, 0, 1, 2, 3, 4, 4);
        Checks.items(x, 1, 0, 0, 0, 0);
        Sentence.due("to another row, up to its end", x.copy(0, 3, 1, 2, 2), 2);
        items(x, 1, 0, 0, 0, 4, 4);
        items(x, 0, 0, 1, 2, 3, 4, 4);
        Sentence.due("one item", x.copy(0, 1, 1, 0, 1), 1);
        items(x, 1, 0, 2, 0, 4, 4);
        Sentence.due("none", x.copy(0, 0, 1, 0, 0), 0);
        items(x, 1, 0, 2, 0, 4, 4);
        for (int lane = 1; lane < 3; lane++) {
            x.row(2, lane, 40);
            x.row(3, lane, 40);
            x.set(2, 39, 3);
            Sentence.due("forty of lane " + lane, x.copy(2, 0, 3, 0, 40), 40);
            items(x, 3, 38, 0, 3);
        }
    }

    private static void aCopyIsRefused() {
        Sentence.says(4, "BAD: ROWS; NULL; STORE; PLACE (i, j, n below 0, or beyond an end).");
        StringsSheet x = new StringsSheet();
        x.row(0, 0, 4);
        x.row(1, 0, 3);
        x.row(2, 1, 4);
        x.row(3, 2, 4);
        x.row(4, 0, 0);
        for (int row : new int[] {LEAST, -1, 8, MOST}) {
            Sentence.due("from row " + row, x.copy(row, 0, 0, 0, 1), Checks.BAD);
            Sentence.due("to row " + row, x.copy(0, 0, row, 0, 1), Checks.BAD);
            Sentence.due("from a missing one to row " + row, x.copy(5, 0, row, 0, 1), Checks.BAD);
            Sentence.due("from row " + row + " to a missing one", x.copy(row, 0, 5, 0, 1), Checks.BAD);
        }
        Sentence.due("from a missing one", x.copy(5, 0, 0, 0, 1), Checks.NULL);
        Sentence.due("to a missing one", x.copy(0, 0, 5, 0, 1), Checks.NULL);
        Sentence.due("of missing ones, none", x.copy(5, 0, 5, 0, 0), Checks.NULL);
        Sentence.due("from a missing one, below 0", x.copy(5, -1, 0, -1, -1), Checks.NULL);
        Sentence.due("bytes to shorts", x.copy(0, 0, 2, 0, 1), Checks.STORE);
        Sentence.due("shorts to bytes", x.copy(2, 0, 0, 0, 1), Checks.STORE);
        Sentence.due("shorts to ints", x.copy(2, 0, 3, 0, 1), Checks.STORE);
        Sentence.due("ints to bytes, none", x.copy(3, 0, 0, 0, 0), Checks.STORE);
        Sentence.due("ints to bytes, below 0", x.copy(3, -1, 0, -1, -1), Checks.STORE);
        Sentence.due("i below 0", x.copy(0, -1, 1, 0, 1), Checks.PLACE);
        Sentence.due("j below 0", x.copy(0, 0, 1, -1, 1), Checks.PLACE);
        Sentence.due("n below 0", x.copy(0, 1, 1, 1, -1), Checks.PLACE);
        Sentence.due("i below 0, none", x.copy(0, -1, 1, 0, 0), Checks.PLACE);
        Sentence.due("j below 0, none", x.copy(0, 0, 1, -1, 0), Checks.PLACE);
        Sentence.due("up to both ends", x.copy(0, 1, 1, 0, 3), 3);
        Sentence.due("beyond the end of b", x.copy(0, 0, 1, 0, 4), Checks.PLACE);
        Sentence.due("beyond the end of b by j", x.copy(0, 0, 1, 1, 3), Checks.PLACE);
        Sentence.due("beyond the end of a", x.copy(1, 0, 0, 0, 4), Checks.PLACE);
        Sentence.due("beyond the end of a by i", x.copy(1, 1, 0, 0, 3), Checks.PLACE);
    }

    private static void aCopyWithinOneRowIsRefused() {
        StringsSheet x = new StringsSheet();
        x.row(0, 0, 4);
        x.row(4, 0, 0);
        Sentence.due("none at both ends", x.copy(0, 4, 0, 4, 0), 0);
        Sentence.due("none beyond the end of a", x.copy(0, 5, 0, 0, 0), Checks.PLACE);
        Sentence.due("none beyond the end of b", x.copy(0, 0, 0, 5, 0), Checks.PLACE);
        Sentence.due("none of none", x.copy(4, 0, 4, 0, 0), 0);
        Sentence.due("one of none", x.copy(4, 0, 0, 0, 1), Checks.PLACE);
        Sentence.due("one to none", x.copy(0, 0, 4, 0, 1), Checks.PLACE);
        for (int far : new int[] {LEAST, MOST, MOST - 2}) {
            Sentence.due("i " + far, x.copy(0, far, 0, 0, 4), Checks.PLACE);
            Sentence.due("j " + far, x.copy(0, 0, 0, far, 4), Checks.PLACE);
            Sentence.due("n " + far, x.copy(0, 3, 0, 3, far), Checks.PLACE);
            Sentence.due("all " + far, x.copy(0, far, 0, far, far), Checks.PLACE);
        }
    }

    private static void aRowIsDropped() {
        Sentence.says(5, "A ROW is missing from now on: how many ITEMS it had.");
        StringsSheet x = Checks.on(FIVE);
        x.row(0, 0, 40);
        x.row(7, 2, 0);
        x.row(3, 1, 1);
        Sentence.due("of 40", x.drop(0), 40);
        Sentence.due("of 0", x.drop(7), 0);
        Sentence.due("of 1", x.drop(3), 1);
        Sentence.due("rows", x.count(0), 0);
        Sentence.due("set", x.set(0, 0, 1), Checks.NULL);
        Sentence.due("copy", x.copy(0, 0, 0, 0, 0), Checks.NULL);
        Sentence.due("raid", x.raid(0, 0, 1), Checks.NULL);
        Sentence.due("two", x.two(0, 0, 0, 1), Checks.NULL);
        x.row(0, 0, 2);
        x.set(0, 0, 3);
        x.set(0, 1, 3);
        x.drop(0);
        x.row(0, 0, 2);
        items(x, 0, 0, 0, 0);
    }

    private static void aDropIsRefused() {
        Sentence.says(5, "BAD; NULL.");
        StringsSheet x = new StringsSheet();
        for (int row : new int[] {LEAST, -1, 8, MOST}) {
            Sentence.due("drop(" + row + ")", x.drop(row), Checks.BAD);
        }
        Sentence.due("drop(0) at first", x.drop(0), Checks.NULL);
        Sentence.due("drop(7) at first", x.drop(7), Checks.NULL);
        x.row(0, 0, 3);
        Sentence.due("drop(0)", x.drop(0), 3);
        Sentence.due("drop(0) again", x.drop(0), Checks.NULL);
        Sentence.due("drop(1), beside it", x.drop(1), Checks.NULL);
    }

    private static void status(StringsSheet x, String behind, long answer, int status) {
        Sentence.due("status() behind " + behind + ", which answered " + answer, x.status(), status);
    }

    private static void theStatus() {
        Sentence.says(41, "Of the latest call with a ROW, or as(), that was not BAD, STATE, FULL: the number of its "
            + "FINDING; 0: it had none, or there was none.");
        StringsSheet x = new StringsSheet();
        status(x, "nothing", 0, 0);
        status(x, "row() that is BAD", x.row(0, 0, 41), 0);
        status(x, "raid() that is STATE", x.raid(0, 0, 1), 0);
        status(x, "SIZE of row()", x.row(0, 0, -1), 4);
        status(x, "raid() that is STATE", x.raid(0, 0, 1), 4);
        status(x, "two() that is STATE", x.two(0, 0, 0, 1), 4);
        status(x, "two() that is BAD", x.two(8, 0, 0, 1), 4);
        status(x, "row()", x.row(0, 0, 2), 0);
        status(x, "NULL of set()", x.set(1, 0, 1), 1);
        status(x, "set() that is BAD", x.set(8, 0, 1), 1);
        status(x, "set()", x.set(0, 0, 1), 0);
        status(x, "PLACE of set()", x.set(0, 2, 1), 2);
        status(x, "copy() that is BAD", x.copy(8, 0, 0, 0, 1), 2);
        status(x, "copy()", x.copy(0, 0, 0, 0, 0), 0);
        status(x, "NULL of copy()", x.copy(0, 0, 1, 0, 0), 1);
        x.row(1, 1, 2);
        status(x, "STORE of copy()", x.copy(0, 0, 1, 0, 0), 5);
        status(x, "drop() that is BAD", x.drop(-1), 5);
        status(x, "PLACE of copy()", x.copy(0, 0, 0, 0, 3), 2);
        status(x, "drop()", x.drop(1), 0);
        status(x, "NULL of drop()", x.drop(1), 1);
        status(x, "feed() that is BAD", x.feed(0, 9), 1);
        status(x, "pavement() with a fault", x.pavement(), 1);
        status(x, "count() that is BAD", x.count(9), 1);
        status(x, "as() that is BAD", x.as(0, 0), 1);
        status(x, "restore() that is STATE", x.restore(0), 1);
    }

    private static void theStatusOfRaids() {
        StringsSheet x = Checks.on(FIVE + "watcher 0;");
        x.row(0, 0, 2);
        x.set(0, 1, 5);
        status(x, "NULL of raid()", x.raid(1, 0, 1), 1);
        status(x, "PLACE of raid()", x.raid(0, 2, 1), 2);
        status(x, "raid() by an item that is BAD", x.raid(0, 1, 1), 2);
        status(x, "raid() where there is no street", x.raid(0, 0, 2), 2);
        status(x, "raid()", x.raid(0, 0, 1), 0);
        status(x, "KIND of as()", x.as(0, 1), 3);
        status(x, "as() of no seller", x.as(5, 1), 3);
        status(x, "as() of no kind", x.as(0, 5), 3);
        status(x, "keep()", x.keep(), 3);
        status(x, "keep() that is STATE", x.keep(), 3);
        status(x, "ask()", x.ask(0, 0), 3);
        status(x, "owe() that is FULL", x.owe(0, 1, 9999) + x.owe(0, 1, 1), 3);
        status(x, "image()", x.image(0), 3);
        status(x, "as()", x.as(0, 0), 0);
        status(x, "restore()", x.restore(0), 0);
        status(x, "NULL of two()", x.two(1, 0, 0, 1), 1);
        status(x, "PLACE of two()", x.two(0, 0, 2, 1), 2);
        status(x, "two() by an item that is BAD", x.two(0, 0, 1, 1), 2);
        status(x, "two()", x.two(0, 0, 0, 1), 0);
    }
}
