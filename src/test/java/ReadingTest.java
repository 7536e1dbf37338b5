/** Promises 1, 6 to 8, 11 and 40: a new object, the tape, texts, their faults, what is counted. */
public final class ReadingTest {
    private static final String HEAD = "corner 5;goods 2 9 3;";

    public static void main(String[] args) {
        aNewObjectHasNothing();
        bytesComeBehindTheTape();
        textsAreRead();
        tokensThatCannotStandThere();
        numbersThatAreNotAsTold();
        moreThanThereIsRoomFor();
        allStaysAtAFault();
        aNewPavementForgets();
        sellersAreTold();
        Checks.end();
    }

    private static void aNewObjectHasNothing() {
        StringsSheet x = new StringsSheet();
        for (int what = 0; what <= 8; what++) {
            Checks.due("count(" + what + ")", x.count(what), 0);
        }
        Checks.due("count(-1)", x.count(-1), Checks.BAD);
        Checks.due("count(9)", x.count(9), Checks.BAD);
        Checks.due("fault()", x.fault(), 0);
        Checks.due("status()", x.status(), 0);
        Checks.due("trace(0)", x.trace(0), Checks.NONE);
        Checks.due("NONE", StringsSheet.NONE, -1000000);
        Checks.due("NOT", StringsSheet.NOT, -9000000000000000000L);
    }

    private static void bytesComeBehindTheTape() {
        StringsSheet x = new StringsSheet();
        Checks.due("feed(.., 0)", x.feed(1, 0), Checks.BAD);
        Checks.due("feed(.., -1)", x.feed(1, -1), Checks.BAD);
        Checks.due("feed(.., 9)", x.feed(1, 9), Checks.BAD);
        for (int k = 1; k <= 74; k++) {
            Checks.due("feed(.., 8)", x.feed(0x2020202020202020L, 8), 8 * k);
        }
        Checks.due("feed(.., 7) to 599", x.feed(0x20202020202020L, 7), 599);
        Checks.due("feed(.., 2) beyond 600", x.feed(0x2020, 2), Checks.FULL);
        Checks.due("none came", x.count(8), 599);
        Checks.due("feed(.., 1) to 600", x.feed(0x20, 1), 600);
        Checks.due("feed(.., 1) beyond 600", x.feed(0x20, 1), Checks.FULL);
        Checks.due("feed(.., 9) of a full one", x.feed(0x20, 9), Checks.BAD);
        Checks.due("600 blanks", x.pavement(), Checks.NOT - 100 - 600);
        Checks.due("the tape is empty then", x.count(8), 0);
        // Higher bytes of w than the lowest n are left out; a minus is a byte, too.
        x.feed(0x7878787878787863L, 1);
        x.feed(0x6f726e65722035L, 7);
        x.feed(0x787878783b676f6fL, 4);
        x.feed(0x6473203920313b00L >> 8, 7);
        Checks.due("corner 5;goods 9 1;", x.pavement(), Checks.NOT - 100 - 18);
        bytesReadBeforeAreGone(x);
        x.feed(-1, 1);
        Checks.due("byte 255", x.pavement(), Checks.NOT - 100);
    }

    private static void bytesReadBeforeAreGone(StringsSheet x) {
        Checks.feed(x, "corner 5;goods 2 9 33;seller 0 0;");
        x.pavement();
        Checks.due("a number at the end", placeOf(x, "corner 5;goods 2 9 3"), 20);
        Checks.feed(x, "corner 5;goods 2 9 33;seller 0 0;");
        x.pavement();
        Checks.due("a name at the end", placeOf(x, "corner 5;goods 2 9 33;selle"), 22);
        Checks.due("two texts were read", x.count(4), 1);
    }

    private static long placeOf(StringsSheet x, String text) {
        Checks.feed(x, text);
        return Checks.NOT - 100 - x.pavement();
    }

    private static void faultIn(String text, int place, int number) {
        StringsSheet x = new StringsSheet();
        Checks.due("the fault's place in " + text, placeOf(x, text), place);
        Checks.due("the fault in " + text, x.fault(), number);
        Checks.due("the tape behind " + text, x.count(8), 0);
        Checks.due("the corners behind " + text, x.count(1), 0);
    }

    private static void countsOf(String text, int... counts) {
        StringsSheet x = new StringsSheet();
        Checks.feed(x, text);
        Checks.due("pavement() of " + text, x.pavement(), counts[0]);
        for (int what = 1; what <= 6; what++) {
            Checks.due("count(" + what + ") of " + text, x.count(what), counts[what - 1]);
        }
        Checks.due("days of " + text, x.count(7), 0);
        Checks.due("fault() of " + text, x.fault(), 0);
    }

    private static void textsAreRead() {
        countsOf(HEAD, 1, 0, 1, 0, 0, 0);
        countsOf("\n corner 005 ;\n\ngoods 2 9 3 ; ", 1, 0, 1, 0, 0, 0);
        countsOf("corner5;goods2 9 3;", 1, 0, 1, 0, 0, 0);
        countsOf("corner 0;corner 99;street 0 1 20;street 1 0 1;goods 9 99 99;goods 1 1 0;"
            + "seller 1 1;watcher 0;watcher 1;cellar 1 99;cellar 0 0;law 20 30 9;", 2, 1, 2, 1, 2, 2);
        String most = "corner 1;".repeat(7) + "street 0 1 1;".repeat(16) + "goods 1 1 1;".repeat(4)
            + "seller 0 0;".repeat(5) + "watcher 0;".repeat(4) + "cellar 0 0;".repeat(6);
        countsOf(most, 7, 1, 4, 5, 4, 6);
        countsOf(HEAD + "law 0 0 1;", 1, 0, 1, 0, 0, 0);
        countsOf(HEAD + "cellar 0 0;law 0 0 1;", 1, 0, 1, 0, 0, 1);
    }

    private static void tokensThatCannotStandThere() {
        faultIn("", 0, 1);
        faultIn("  \n", 3, 1);
        faultIn("goods 1 1 1;", 0, 1);
        faultIn("corners 5;", 0, 1);
        faultIn("corne 5;", 0, 1);
        faultIn("xorner 5;", 0, 1);
        faultIn("cornerz 5;", 0, 1);
        faultIn("Corner 5;", 0, 1);
        faultIn("corNer 5;", 0, 1);
        faultIn("5", 0, 1);
        faultIn("corner;", 6, 1);
        faultIn("corner", 6, 1);
        faultIn("corner x;", 7, 1);
        faultIn("corner 5 5;", 9, 1);
        faultIn("corner 5 goods", 9, 1);
        faultIn("corner 5", 8, 1);
        faultIn("corner 5 ", 9, 1);
        faultIn("corner 5;", 9, 1);
        faultIn("corner 5;\n ", 11, 1);
        faultIn("corner 1234;", 7, 1);
        faultIn("corner 0005;", 7, 1);
        faultIn("corner 5#;", 8, 1);
        faultIn("corner -5;", 7, 1);
        faultIn("corner\t5;", 6, 1);
        faultIn("corner 5;seller 0 0;", 9, 1);
        faultIn("corner 5;law 0 0 1;", 9, 1);
        faultIn("corner 5;;", 9, 1);
        faultIn("corner 5;corner 5;street 0 1 1;corner 5;", 31, 1);
        faultIn("corner 5;corner 5;street 0 1 1;", 31, 1);
        faultIn(HEAD + "corner 5;", 21, 1);
        faultIn(HEAD + "street 0 1 1;", 21, 1);
        faultIn(HEAD + "seller 0 0;goods 1 1 1;", 32, 1);
        faultIn(HEAD + "watcher 0;seller 0 0;", 31, 1);
        faultIn(HEAD + "cellar 0 0;watcher 0;", 32, 1);
        faultIn(HEAD + "law 0 0 1;cellar 0 0;", 31, 1);
        faultIn(HEAD + "law 0 0 1;law 0 0 1;", 31, 1);
        faultIn(HEAD + "law 0 0;", 28, 1);
        faultIn(HEAD + "law 0 0 1", 30, 1);
        faultIn(HEAD + "law 0 0 1;x", 31, 1);
    }

    private static void numbersThatAreNotAsTold() {
        String two = "corner 5;corner 5;";
        faultIn("corner 100;", 7, 2);
        faultIn("corner 100", 7, 2);
        faultIn(two + "street 2 0 1;", 25, 2);
        faultIn(two + "street 0 2 1;", 27, 2);
        faultIn(two + "street 1 1 1;", 27, 2);
        faultIn(two + "street 0 1 0;", 29, 2);
        faultIn(two + "street 0 1 21;", 29, 2);
        faultIn("corner 5;goods 0 1 1;", 15, 2);
        faultIn("corner 5;goods 10 1 1;", 15, 2);
        faultIn("corner 5;goods 1 0 1;", 17, 2);
        faultIn("corner 5;goods 1 100 1;", 17, 2);
        faultIn("corner 5;goods 1 1 100;", 19, 2);
        faultIn(HEAD + "seller 1 0;", 28, 2);
        faultIn(HEAD + "seller 0 1;", 30, 2);
        faultIn(HEAD + "watcher 1;", 29, 2);
        faultIn(HEAD + "cellar 1 0;", 28, 2);
        faultIn(HEAD + "cellar 0 100;", 30, 2);
        faultIn(HEAD + "law 21 0 1;", 25, 2);
        faultIn(HEAD + "law 0 31 1;", 27, 2);
        faultIn(HEAD + "law 0 0 0;", 29, 2);
        faultIn(HEAD + "law 0 0 10;", 29, 2);
    }

    private static void moreThanThereIsRoomFor() {
        faultIn("corner 1;".repeat(8), 63, 3);
        faultIn("corner 1;".repeat(7) + "corner", 63, 3);
        faultIn("corner 1;corner 1;" + "street 0 1 1;".repeat(17), 18 + 16 * 13, 3);
        faultIn("corner 1;" + "goods 1 1 1;".repeat(5), 9 + 4 * 12, 3);
        faultIn(HEAD + "seller 0 0;".repeat(6), 21 + 5 * 11, 3);
        faultIn(HEAD + "watcher 0;".repeat(5), 21 + 4 * 10, 3);
        faultIn(HEAD + "cellar 0 0;".repeat(7), 21 + 6 * 11, 3);
    }

    private static void allStaysAtAFault() {
        StringsSheet x = Checks.on("corner 5;corner 6;street 0 1 3;goods 2 9 3;seller 0 1;seller 0 0;watcher 0;");
        Checks.raid(x, 0);
        x.keep();
        x.owe(0, 1, 7);
        x.goes(0, 0);
        Checks.due("a fault's place", placeOf(x, "corner 1;corner 1;corner 1;goods 1 1;"), 36);
        Checks.due("fault()", x.fault(), 1);
        Checks.due("corners", x.count(1), 2);
        Checks.due("sellers", x.count(4), 2);
        Checks.due("days", x.count(7), 1);
        Checks.due("owed", x.owed(0, 1), 7);
        Checks.due("where it stands", x.seller(0, 1), 0);
        Checks.due("the latest raid", x.after(0, 1), Checks.NONE);
        Checks.due("a number's place", placeOf(x, "corner 100;"), 7);
        Checks.due("fault()", x.fault(), 2);
        Checks.feed(x, HEAD);
        Checks.due("a text without", x.pavement(), 1);
        Checks.due("fault() is of the latest one", x.fault(), 2);
    }

    private static void aNewPavementForgets() {
        String text = "corner 5;corner 6;street 0 1 3;goods 2 9 3;seller 0 1;seller 0 0;watcher 0;law 3 4 5;";
        StringsSheet x = Checks.on(text);
        Checks.raid(x, 0, 1);
        x.keep();
        x.owe(0, 1, 7);
        Checks.items(x, 3, 1, 2, 3);
        Checks.feed(x, "corner 5;corner 6;goods 2 9 3;seller 0 1;seller 0 0;watcher 0;");
        Checks.due("pavement()", x.pavement(), 2);
        Checks.due("days", x.count(7), 0);
        Checks.due("owed", x.owed(0, 1), 0);
        Checks.due("streets", x.count(2), 0);
        Checks.due("no way", x.walk(0, 1, 0), Checks.NONE);
        Checks.due("no raid", x.after(-1, 4), Checks.STATE);
        Checks.due("no raid to keep", x.keep(), Checks.STATE);
        Checks.due("feared", x.feared(0, 1), 2);
        Checks.due("the law of none", x.may(0), 3);
        Checks.due("QUIET of none: 11", x.nothing(0), 13);
        Checks.due("rows stay", x.drop(3), 3);
    }

    private static void sellersAreTold() {
        StringsSheet x = Checks.on("corner 5;corner 6;goods 2 9 3;goods 4 8 0;seller 1 0;seller 0 1;");
        int[][] told = {{1, 0, 4, 8, 0}, {0, 1, 2, 9, 3}};
        for (int s = 0; s < 2; s++) {
            for (int what = 0; what < 5; what++) {
                Checks.due("seller(" + s + ", " + what + ")", x.seller(s, what), told[s][what]);
            }
        }
        Checks.due("seller(0, 5)", x.seller(0, 5), Checks.BAD);
        Checks.due("seller(0, -1)", x.seller(0, -1), Checks.BAD);
        Checks.due("seller(2, 0)", x.seller(2, 0), Checks.BAD);
        Checks.due("seller(-1, 0)", x.seller(-1, 0), Checks.BAD);
        Checks.due("seller() without a pavement", new StringsSheet().seller(0, 0), Checks.BAD);
    }
}
