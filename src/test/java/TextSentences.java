/** Promises 1, 6 to 8, 11 and 40, sentence by sentence: the tape, texts and their faults, what is counted. */
final class TextSentences {
    private static final String HEAD = "corner 5;goods 2 9 3;";
    private static final int LEAST = Integer.MIN_VALUE;
    private static final int MOST = Integer.MAX_VALUE;

    private TextSentences() {
    }

    static void go() {
        aNewObject();
        bytesAreFed();
        feedIsRefused();
        theTape();
        letters();
        figures();
        signsAndBlanks();
        theOrderOfATextIsKept();
        corners();
        streets();
        goods();
        sellers();
        watchers();
        cellars();
        law();
        theNextPavement();
        theFirstFault();
        faultsOfPlace();
        faultsOfNumbers();
        faultsOfRoom();
        thePavementIsRead();
        allStaysAtAFault();
        theLatestFault();
        whatASellerIs();
        howMany();
        howManyIsRefused();
    }

    private static long place(StringsSheet x, String text) {
        Checks.feed(x, text);
        return Checks.NOT - 100 - x.pavement();
    }

    private static void fault(String text, int place, int number) {
        StringsSheet x = new StringsSheet();
        Sentence.due("the place of the fault in <" + text + ">", place(x, text), place);
        Sentence.due("the fault in <" + text + ">", x.fault(), number);
        Sentence.due("corners by <" + text + ">", x.count(1), 0);
    }

    private static StringsSheet reads(String text, int corners) {
        StringsSheet x = new StringsSheet();
        Checks.feed(x, text);
        Sentence.due("pavement() of <" + text + ">", x.pavement(), corners);
        Sentence.due("fault() of <" + text + ">", x.fault(), 0);
        return x;
    }

    // ---- a new object, the tape

    private static void aNewObject() {
        Sentence.says(1, "No PAVEMENT.");
        StringsSheet x = new StringsSheet();
        for (int what = 1; what <= 7; what++) {
            Sentence.due("count(" + what + ")", x.count(what), 0);
        }
        Sentence.due("rest()", x.rest(), Checks.STATE);
        Sentence.due("settle()", x.settle(), Checks.STATE);
        Sentence.due("rests(-1)", x.rests(-1), Checks.STATE);
        Sentence.due("stored(-1)", x.stored(-1), Checks.STATE);
        Sentence.due("value(1, 0)", x.value(1, 0), Checks.STATE);
        Sentence.due("passed()", x.passed(), Checks.STATE);
        Sentence.due("image(0)", x.image(0), Checks.STATE);
        Sentence.due("restore(0)", x.restore(0), Checks.STATE);
        Sentence.due("raid(0, 0, 1)", x.raid(0, 0, 1), Checks.STATE);
        Sentence.due("two(0, 0, 0, 1)", x.two(0, 0, 0, 1), Checks.STATE);
        Sentence.due("after(-1, 4)", x.after(-1, 4), Checks.STATE);
        Sentence.due("keep()", x.keep(), Checks.STATE);
        Sentence.due("walk(0, 0, 0)", x.walk(0, 0, 0), Checks.BAD);
        Sentence.due("newcomer(0)", x.newcomer(0), Checks.BAD);
        Sentence.due("seller(0, 0)", x.seller(0, 0), Checks.BAD);
        Sentence.due("a new one beside it", reads(HEAD, 1).count(1), 1);
        Sentence.due("is another one", x.count(1), 0);
    }

    private static void bytesAreFed() {
        Sentence.says(6, "The lowest n bytes of w (1 to 8), the highest of them first, come behind the tape: "
            + "how many it has.");
        String text = "corner 7;goods 2 9 3;seller 0 0;";
        for (int n = 1; n <= 8; n++) {
            StringsSheet x = new StringsSheet();
            int had = 0;
            while (had < text.length()) {
                int more = Math.min(n, text.length() - had);
                // Bytes above the lowest n are told, too, and must be left out.
                long w = 0x7a7a7a7a7a7a7a7aL;
                for (int k = 0; k < more; k++) {
                    w = w << 8 | text.charAt(had + k);
                }
                had += more;
                Sentence.due("feed(.., " + more + ")", x.feed(w, more), had);
            }
            Sentence.due("read by " + n, x.pavement(), 1);
            Sentence.due("read by " + n, x.seller(0, 3), 9);
        }
        StringsSheet below = new StringsSheet();
        Sentence.due("a w below 0", below.feed(-1, 8), 8);
        Sentence.due("bytes of 255", below.pavement(), Checks.NOT - 100);
        below.feed(0x20202020202020ffL, 8);
        Sentence.due("the highest first", below.pavement(), Checks.NOT - 107);
        below.feed(0xff20202020202020L, 8);
        Sentence.due("the highest first", below.pavement(), Checks.NOT - 100);
    }

    private static void feedIsRefused() {
        Sentence.says(6, "BAD: n; FULL: none comes.");
        StringsSheet x = new StringsSheet();
        for (int n : new int[] {LEAST, -1, 0, 9, MOST}) {
            Sentence.due("feed(.., " + n + ")", x.feed(0x2020, n), Checks.BAD);
        }
        Sentence.due("none came", x.count(8), 0);
        for (int k = 0; k < 74; k++) {
            x.feed(0x2020202020202020L, 8);
        }
        Sentence.due("feed(.., 1)", x.feed(0x20, 1), 593);
        Sentence.due("8 beside 593", x.feed(0x7a7a7a7a7a7a7a7aL, 8), Checks.FULL);
        Sentence.due("none came", x.count(8), 593);
        Sentence.due("9 beside 593", x.feed(0x20, 9), Checks.BAD);
        Sentence.due("7 beside 593", x.feed(0x20202020202020L, 7), 600);
        Sentence.due("1 beside 600", x.feed(0x7a, 1), Checks.FULL);
        Sentence.due("0 beside 600", x.feed(0x7a, 0), Checks.BAD);
        Sentence.due("none came", x.count(8), 600);
        Sentence.due("none was read", x.pavement(), Checks.NOT - 100 - 600);
        Sentence.due("there is room again", x.feed(0x20, 1), 1);
    }

    private static void theTape() {
        Sentence.says(0, "TEXTS: THE TAPE has at most 600 bytes;");
        String text = HEAD + "seller 0 0;watcher 0;";
        String end = "law 0 7 3;";
        StringsSheet x = reads(text + " ".repeat(600 - text.length() - end.length()) + end, 1);
        Sentence.due("the last of 600 bytes is read", x.nothing(0), 2 + 7);
        StringsSheet y = new StringsSheet();
        Checks.feed(y, " ".repeat(600 - end.length()) + end);
        Sentence.due("600 bytes", y.count(8), 600);
        Sentence.due("a fault near the end", y.pavement(), Checks.NOT - 100 - 590);
        Checks.feed(y, " ".repeat(600));
        Sentence.due("byte 601", y.feed(32, 1), Checks.FULL);
        Sentence.due("the end of 600", y.pavement(), Checks.NOT - 100 - 600);
        Checks.feed(y, "z".repeat(600));
        Sentence.due("a name of 600", y.pavement(), Checks.NOT - 100);
        Checks.feed(y, "corner " + "0".repeat(593));
        Sentence.due("593 figures", y.pavement(), Checks.NOT - 107);
    }

    // ---- tokens

    private static void letters() {
        Sentence.says(0, "TOKENS: NAMES (letters a to z), NUMBERS (figures, 3 at most), SIGNS ; "
            + "bytes 32 and 10 between.");
        fault("cornera 5;", 0, 1);
        fault("cornerz 5;", 0, 1);
        fault("acorner 5;", 0, 1);
        fault("corner" + (char) ('a' - 1) + "5;", 6, 1);
        fault("corner" + (char) ('z' + 1) + "5;", 6, 1);
        fault("cornerA 5;", 6, 1);
        fault("cornerZ 5;", 6, 1);
        fault("CORNER 5;", 0, 1);
        fault("corner " + (char) ('a' + 128) + ";", 7, 1);
        reads("corner5;goods2 9 3;", 1);
        everyLetterCounts();
    }

    private static void everyLetterCounts() {
        String whole = "corner 1;corner 1;street 0 1 1;goods 1 1 1;seller 0 0;watcher 0;cellar 0 0;law 0 0 1;";
        reads(whole, 2);
        int word = 0;
        for (int i = 0; i < whole.length(); i++) {
            if (i > 0 && !Character.isLetter(whole.charAt(i - 1))) {
                word = i;
            }
            if (Character.isLetter(whole.charAt(i))) {
                fault(whole.substring(0, i) + 'x' + whole.substring(i + 1), word, 1);
                fault(whole.substring(0, i) + 'x' + whole.substring(i), word, 1);
            }
        }
    }

    private static void figures() {
        reads("corner 5;goods 2 9 3;", 1);
        reads("corner 05;goods 02 09 03;", 1);
        Sentence.due("of three figures", reads("corner 005;goods 002 009 003;seller 000 000;", 1).seller(0, 3), 9);
        Sentence.due("of figures 0 to 9", reads("corner 5;goods 9 80 76;seller 0 0;", 1).seller(0, 4), 76);
        fault("corner 0005;", 7, 1);
        fault("corner 5;goods 0002 9 3;", 15, 1);
        fault("corner 5" + (char) ('0' - 1) + ";", 8, 1);
        fault("corner 5" + (char) ('9' + 1) + ";", 8, 1);
        fault("corner " + (char) ('0' + 128) + ";", 7, 1);
        fault("corner +5;", 7, 1);
        fault("corner 5a;", 8, 1);
        fault("corner 5;goods 2 9 3.0;", 20, 1);
    }

    private static void signsAndBlanks() {
        fault("corner 5" + (char) (';' - 1), 8, 1);
        fault("corner 5" + (char) (';' + 1), 8, 1);
        fault("corner 5,", 8, 1);
        fault("corner 5" + (char) (';' + 128), 8, 1);
        reads("\n \n corner\n5\n;\n  goods\n\n2 9\n3\n;\n\n", 1);
        for (int blank : new int[] {0, 8, 9, 11, 12, 13, 31, 33, 127, 128 + 10, 128 + 32, 255}) {
            fault("corner" + (char) blank + "5;", 6, 1);
            fault(HEAD + (char) blank, 21, 1);
        }
        fault("cor ner 5;", 0, 1);
        fault("corner 1 2;", 9, 1);
    }

    // ---- the text

    private static final String[] SORTS = {"corner 1;", "street 0 1 1;", "goods 1 1 1;", "seller 0 0;", "watcher 0;",
        "cellar 0 0;", "law 0 0 1;"};

    private static void theOrderOfATextIsKept() {
        Sentence.says(0, "text: corner { corner } { street } goods { goods } { seller } { watcher } { cellar } "
            + "[ law ].");
        String whole = "corner 1;";
        for (int sort = 0; sort < SORTS.length; sort++) {
            whole += SORTS[sort];
            for (int earlier = 0; earlier < sort; earlier++) {
                fault(whole + SORTS[earlier], whole.length(), 1);
            }
            fault(SORTS[sort].replace("corner", "corners"), 0, 1);
        }
        fault(whole + SORTS[6], whole.length(), 1);
        fault(whole + "end", whole.length(), 1);
        fault(whole + "1", whole.length(), 1);
        fault(whole + ";", whole.length(), 1);
        for (int sort = 1; sort < SORTS.length; sort++) {
            fault(SORTS[sort], 0, 1);
        }
        for (int sort = 3; sort < SORTS.length; sort++) {
            fault("corner 1;" + SORTS[sort], 9, 1);
            reads(HEAD + SORTS[sort], 1);
            for (int later = sort + 1; later < SORTS.length; later++) {
                reads(HEAD + SORTS[sort] + SORTS[later], 1);
            }
        }
        fault("corner 1;", 9, 1);
        fault("corner 1;corner 1;street 0 1 1;", 31, 1);
        reads("corner 1;corner 1;street 0 1 1;goods 1 1 1;", 2);
        reads("corner 1;corner 1;goods 1 1 1;goods 1 1 1;", 2);
    }

    /** A statement's words and numbers are taken away, one by one, from its end on. */
    private static void cutShort(String head, String... tokens) {
        StringBuilder text = new StringBuilder(head);
        for (String token : tokens) {
            text.append(token);
            fault(text.toString(), text.length(), 1);
            fault(text + " x", text.length() + 1, 1);
            if (!token.equals(tokens[tokens.length - 1])) {
                fault(text + " ;", text.length() + 1, 1);
            } else {
                fault(text + " 7", text.length() + 1, 1);
            }
            text.append(' ');
        }
    }

    private static void corners() {
        Sentence.says(0, "corner: 'corner' EARNS ';' (0 to 99; CORNERS 0 .. 6, 7 at most).");
        StringsSheet x = reads("corner 0;corner 99;corner 1;goods 1 1 0;seller 0 0;", 3);
        // Without days FEARED is 1 by 2: 10 times 1 by 2 less.
        Sentence.due("EARNS 0", x.score(0, 0), -5);
        Sentence.due("EARNS 99", x.score(0, 1), 60 * 99 - 5);
        Sentence.due("EARNS 1", x.score(0, 2), 60 - 5);
        fault("corner 100;", 7, 2);
        fault("corner 999;", 7, 2);
        cutShort("", "corner", "77");
        StringsSheet most = reads("corner 1;".repeat(7) + "goods 1 1 1;", 7);
        Sentence.due("corner 6", most.walk(6, 6, 0), 0);
        Sentence.due("corner 7", most.walk(7, 7, 0), Checks.BAD);
        fault("corner 1;".repeat(8) + "goods 1 1 1;", 63, 3);
    }

    private static void streets() {
        Sentence.says(0, "street: 'street' CORNER CORNER LONG ';' (not itself; 1 to 20; both ways; 16 at most, "
            + "of two between the same the shorter holds).");
        String two = "corner 1;corner 1;";
        StringsSheet x = reads("corner 1;corner 1;corner 1;street 0 1 1;street 2 0 20;goods 1 1 1;", 3);
        Sentence.due("LONG 1", x.walk(0, 1, 0), 1);
        Sentence.due("LONG 20", x.walk(2, 0, 0), 20);
        Sentence.due("back", x.walk(1, 0, 0), 1);
        Sentence.due("back", x.walk(0, 2, 0), 20);
        fault(two + "street 0 1 0;", 29, 2);
        fault(two + "street 0 1 21;", 29, 2);
        fault(two + "street 0 0 1;", 27, 2);
        fault(two + "street 1 1 1;", 27, 2);
        fault(two + "street 2 0 1;", 25, 2);
        fault(two + "street 0 2 1;", 27, 2);
        fault("corner 1;street 0 0 1;", 18, 2);
        cutShort(two, "street", "0", "1", "20");
        String same = "street 0 1 9;street 1 0 4;street 0 1 6;";
        StringsSheet shorter = reads(two + same + "goods 1 1 1;", 2);
        Sentence.due("the shorter holds", shorter.walk(0, 1, 0), 4);
        Sentence.due("the shorter holds, back", shorter.walk(1, 0, 0), 4);
        Sentence.due("pairs", shorter.count(2), 1);
        reads(two + "street 0 1 1;".repeat(16) + "goods 1 1 1;", 2);
        fault(two + "street 0 1 1;".repeat(17) + "goods 1 1 1;", 18 + 16 * 13, 3);
        StringBuilder pairs = new StringBuilder("corner 1;".repeat(7));
        int told = 0;
        for (int a = 0; a < 7; a++) {
            for (int b = a + 1; b < 7 && told < 16; b++) {
                pairs.append("street ").append(a).append(' ').append(b).append(" 1;");
                told++;
            }
        }
        Sentence.due("16 pairs", reads(pairs + "goods 1 1 1;", 7).count(2), 16);
        fault(pairs + "street 5 6 1;goods 1 1 1;", pairs.length(), 3);
    }

    private static void goods() {
        Sentence.says(0, "goods: 'goods' FOLD WORTH FINE ';' (1 to 9; 1 to 99; 0 to 99; GOODS 0 .. 3).");
        StringsSheet x = reads("corner 1;goods 1 1 0;goods 9 99 99;goods 2 3 4;goods 5 6 7;seller 0 0;seller 1 0;seller 3 0;", 1);
        int[][] told = {{1, 1, 0}, {9, 99, 99}, {5, 6, 7}};
        for (int s = 0; s < 3; s++) {
            for (int k = 0; k < 3; k++) {
                Sentence.due("seller(" + s + ", " + (k + 2) + ")", x.seller(s, k + 2), told[s][k]);
            }
        }
        fault("corner 1;goods 0 1 1;", 15, 2);
        fault("corner 1;goods 10 1 1;", 15, 2);
        fault("corner 1;goods 1 0 1;", 17, 2);
        fault("corner 1;goods 1 100 1;", 17, 2);
        fault("corner 1;goods 1 1 100;", 19, 2);
        cutShort("corner 1;", "goods", "1", "2", "34");
        Sentence.due("four", x.count(3), 4);
        Sentence.due("goods 3", x.newcomer(3), 1);
        Sentence.due("goods 4", x.newcomer(4), Checks.BAD);
        fault("corner 1;" + "goods 1 1 1;".repeat(5), 9 + 4 * 12, 3);
    }

    private static void sellers() {
        Sentence.says(0, "seller: 'seller' GOODS CORNER ';' (SELLERS 0 .. 4, 5 at most).");
        String head = "corner 1;corner 1;corner 1;goods 1 1 1;goods 1 1 1;";
        StringsSheet x = reads(head + "seller 0 0;seller 1 2;", 3);
        Sentence.due("its goods", x.seller(1, 0), 1);
        Sentence.due("its corner", x.seller(1, 1), 2);
        fault(head + "seller 2 0;", 58, 2);
        fault(head + "seller 0 3;", 60, 2);
        fault(head + "seller 999 0;", 58, 2);
        cutShort(head, "seller", "1", "2");
        StringsSheet most = reads(head + "seller 0 0;".repeat(4) + "seller 1 1;", 3);
        Sentence.due("five", most.count(4), 5);
        Sentence.due("seller 4", most.seller(4, 1), 1);
        Sentence.due("seller 5", most.seller(5, 1), Checks.BAD);
        fault(head + "seller 0 0;".repeat(6), 51 + 5 * 11, 3);
        Sentence.due("none", reads(head, 3).count(4), 0);
    }

    private static void watchers() {
        Sentence.says(0, "watcher: 'watcher' CORNER ';' (WATCHERS 0 .. 3).");
        String head = "corner 1;corner 1;goods 1 1 1;seller 0 1;";
        StringsSheet x = reads(head + "watcher 0;watcher 0;watcher 0;watcher 1;", 2);
        Sentence.due("four", x.count(5), 4);
        Sentence.due("watcher 3", x.nothing(3), 12);
        Sentence.due("watcher 4", x.nothing(4), Checks.BAD);
        fault(head + "watcher 2;", 49, 2);
        cutShort(head, "watcher", "1");
        fault(head + "watcher 0;".repeat(5), 41 + 4 * 10, 3);
        Sentence.due("none", reads(head, 2).count(5), 0);
    }

    private static void cellars() {
        Sentence.says(0, "cellar: 'cellar' CORNER RISK ';' (0 to 99; CELLARS 0 .. 5).");
        String head = "corner 1;corner 1;street 0 1 1;goods 1 10 1;seller 0 0;";
        Sentence.due("RISK 0", reads(head + "cellar 1 0;", 2).stored(-1), 2);
        Sentence.due("RISK 99", reads(head + "cellar 1 99;", 2).stored(-1), 2 + 99);
        fault(head + "cellar 0 100;", head.length() + 9, 2);
        fault(head + "cellar 2 0;", head.length() + 7, 2);
        cutShort(head, "cellar", "1", "99");
        StringsSheet most = reads(head + "cellar 1 99;".repeat(5) + "cellar 0 0;", 2);
        Sentence.due("six", most.count(6), 6);
        Sentence.due("cellar 5", most.stored(0), 5);
        fault(head + "cellar 0 0;".repeat(7), head.length() + 6 * 11, 3);
        Sentence.due("none", reads(head, 2).count(6), 0);
    }

    private static void law() {
        Sentence.says(0, "law: 'law' NEAR QUIET PASS ';' (0 to 20, 0 to 30, 1 to 9; none: 0, 11, 3).");
        String head = "corner 1;corner 1;corner 1;street 0 1 19;street 1 2 20;goods 1 1 1;seller 0 1;seller 0 1;watcher 1;";
        StringsSheet low = reads(head + "law 0 0 1;", 3);
        Sentence.due("NEAR 0", low.may(0), 7);
        Sentence.due("QUIET 0", low.nothing(0), 2);
        Sentence.due("PASS 1", low.walk(0, 1, 1), 19);
        StringsSheet high = reads(head + "law 20 30 9;", 3);
        Sentence.due("NEAR 20", high.may(0), 4);
        Sentence.due("QUIET 30", high.nothing(0), 62);
        Sentence.due("PASS 9", high.walk(0, 1, 1), 3);
        StringsSheet none = reads(head, 3);
        Sentence.due("none: NEAR", none.may(0), 7);
        Sentence.due("none: QUIET", none.nothing(0), 24);
        Sentence.due("none: PASS", none.walk(0, 1, 1), 7);
        int at = head.length();
        fault(head + "law 21 0 1;", at + 4, 2);
        fault(head + "law 0 31 1;", at + 6, 2);
        fault(head + "law 0 0 0;", at + 8, 2);
        fault(head + "law 0 0 10;", at + 8, 2);
        cutShort(head, "law", "20", "30", "9");
    }

    private static void theNextPavement() {
        Sentence.says(0, "A PAVEMENT that is read stands in place of the one before (none at first): "
            + "no DAYS, nothing owed.");
        StringsSheet x = reads("corner 5;corner 6;corner 7;street 0 1 3;street 1 2 3;goods 2 9 3;goods 1 1 1;seller 0 1;"
            + "seller 1 0;watcher 0;watcher 2;cellar 0 9;law 9 8 7;", 3);
        Checks.raid(x, 0, 1, 2);
        x.keep();
        x.owe(0, 1, 7);
        x.owe(1, 0, 9999);
        Checks.feed(x, "corner 50;corner 60;goods 3 1 0;seller 0 0;seller 0 0;");
        Sentence.due("pavement()", x.pavement(), 2);
        int[] counts = {2, 0, 1, 2, 0, 0, 0, 0};
        for (int what = 1; what <= 8; what++) {
            Sentence.due("count(" + what + ")", x.count(what), counts[what - 1]);
        }
        Sentence.due("owed", x.owed(0, 1), 0);
        Sentence.due("owed", x.owed(1, 0), 0);
        Sentence.due("no latest raid", x.after(0, 0), Checks.STATE);
        Sentence.due("no latest raid", x.kind(0), 1);
        Sentence.due("no such street", x.walk(0, 1, 0), Checks.NONE);
        Sentence.due("no law", x.may(0), 3);
        Sentence.due("its own corners earn", x.score(0, 1), 60 * 60 - 5);
        Sentence.due("no such watcher", x.saved(0, 0), Checks.BAD);
        Checks.feed(x, "corner 50;goods 3 1 0;seller 0 0;seller 0 0;watcher 0;");
        x.pavement();
        Sentence.due("nothing saved", x.saved(0, 0), 0);
        Sentence.due("no day", x.feared(0, 1), 2);
        Sentence.due("no day", x.feared(0, 0), 1);
    }

    // ---- faults

    private static void theFirstFault() {
        Sentence.says(0, "FAULTS, the first TOKEN that has one (its first byte), of one TOKEN the least:");
        fault("corner 100;corner x;", 7, 2);
        fault("corner x;corner 100;", 7, 1);
        fault("corner 1;".repeat(8) + "x", 63, 3);
        fault("corner 1;".repeat(7) + "x" + " corner 1;", 63, 1);
        fault("  \n corner\n  100 ;", 13, 2);
        // The eighth corner behind goods cannot stand there, which is less than no room.
        String seven = "corner 1;".repeat(7) + "goods 1 1 1;";
        fault(seven + "corner 1;", seven.length(), 1);
        // Four figures are no number, which is less than a wrong number.
        fault("corner 1000;", 7, 1);
        fault(HEAD + "law 0 0 0000;", 29, 1);
        // A wrong number where none can stand.
        fault("corner 5 100;", 9, 1);
        fault("100", 0, 1);
        // A second law cannot stand there; there would be no room either.
        fault(HEAD + "law 0 0 1;law 0 0 1;", 31, 1);
    }

    private static void faultsOfPlace() {
        Sentence.says(0, "1 it cannot stand there, or is none (the end: how many bytes there are);");
        fault("", 0, 1);
        fault(" ", 1, 1);
        fault("\n\n\n", 3, 1);
        fault("corner", 6, 1);
        fault("corner 5", 8, 1);
        fault("corner 5;", 9, 1);
        fault("corner 5; \n", 11, 1);
        fault(HEAD + "law", 24, 1);
        fault(HEAD + "law 0 0 1", 30, 1);
        fault("corner corner 5;", 7, 1);
        fault("corner 5 corner 5;", 9, 1);
        fault("corner goods", 7, 1);
        fault("a", 0, 1);
        fault("corner 5;Goods 1 1 1;", 9, 1);
        fault("corner 5;goods 1 1 1;!", 21, 1);
    }

    private static void faultsOfNumbers() {
        Sentence.says(0, "2 a NUMBER that is not as told;");
        fault("corner 100", 7, 2);
        fault("corner 100 goods", 7, 2);
        fault("corner 1;corner 1;street 2 1 1;", 25, 2);
        fault("corner 1;corner 1;street 1 2 1;", 27, 2);
        fault("corner 1;goods 0 0 100;", 15, 2);
        fault(HEAD + "seller 1 1;", 28, 2);
        fault(HEAD + "seller 0 1;", 30, 2);
        fault(HEAD + "watcher 1;", 29, 2);
        fault(HEAD + "cellar 1 0;", 28, 2);
        fault(HEAD + "law 21 31 0;", 25, 2);
    }

    private static void faultsOfRoom() {
        Sentence.says(0, "3 more of a sort than there is room for (its word).");
        fault("corner 1;".repeat(7) + " corner", 64, 3);
        fault("corner 1;".repeat(7) + "corner 100;", 63, 3);
        fault("corner 1;corner 1;" + "street 0 1 1;".repeat(16) + "street 1 1 1;", 226, 3);
        fault("corner 1;" + "goods 1 1 1;".repeat(4) + "goods", 57, 3);
        fault(HEAD + "seller 0 0;".repeat(5) + "seller 9 9;", 76, 3);
        fault(HEAD + "watcher 0;".repeat(4) + "watcher;", 61, 3);
        fault(HEAD + "cellar 0 0;".repeat(6) + "cellar 0 0;", 87, 3);
        String most = "corner 1;".repeat(7) + "street 0 1 1;".repeat(16) + "goods 1 1 1;".repeat(4)
            + "seller 0 0;".repeat(5) + "watcher 0;".repeat(4) + "cellar 0 0;".repeat(6) + "law 0 0 1;";
        reads(most, 7);
    }

    private static void thePavementIsRead() {
        Sentence.says(7, "The tape, empty then, is read: how many CORNERS there are.");
        for (int corners = 1; corners <= 7; corners++) {
            StringsSheet x = reads("corner 1;".repeat(corners) + "goods 1 1 1;", corners);
            Sentence.due("the tape", x.count(8), 0);
            Sentence.due("corners", x.count(1), corners);
            Sentence.due("an empty tape", x.pavement(), Checks.NOT - 100);
            Sentence.due("corners still", x.count(1), corners);
        }
        StringsSheet x = new StringsSheet();
        Checks.feed(x, HEAD + "seller 0 0;");
        x.pavement();
        Sentence.due("no byte of the text before", place(x, HEAD + "selle"), 21);
        Sentence.due("no byte of the text before", place(x, "corner 5;goods 2 9 3"), 20);
    }

    private static void allStaysAtAFault() {
        Sentence.says(7, "NOT less 100 less the place of a FAULT: all stays.");
        StringsSheet x = reads("corner 5;corner 6;street 0 1 3;goods 2 9 3;goods 4 8 1;seller 0 1;seller 1 0;watcher 0;"
            + "cellar 1 3;cellar 0 1;law 2 5 4;", 2);
        Checks.raid(x, 0, 1);
        x.keep();
        x.owe(0, 1, 7);
        x.goes(0, 0);
        x.watch(0, 1);
        x.image(1);
        x.ask(0, 0);
        long[] told = Probe.quietly(x);
        String other = "corner 50;corner 60;corner 70;street 0 2 1;goods 1 1 1;seller 0 2;watcher 2;cellar 2 2;law 20 30 9";
        Sentence.due("the least place", place(x, ""), 0);
        Sentence.due("a place", place(x, other), other.length());
        Sentence.due("the tape is empty all the same", x.count(8), 0);
        Checks.feed(x, " ".repeat(600));
        Sentence.due("the greatest place", x.pavement(), Checks.NOT - 700);
        Probe.same("what is told behind faults", told, Probe.quietly(x));
    }

    private static void theLatestFault() {
        Sentence.says(8, "The number of the latest FAULT; 0 before one.");
        StringsSheet x = new StringsSheet();
        Sentence.due("at first", x.fault(), 0);
        Checks.feed(x, HEAD);
        x.pavement();
        Sentence.due("behind a text without one", x.fault(), 0);
        place(x, "corner 1;".repeat(8));
        Sentence.due("no room", x.fault(), 3);
        place(x, "corner 100;");
        Sentence.due("a wrong number", x.fault(), 2);
        place(x, "x");
        Sentence.due("it cannot stand there", x.fault(), 1);
        place(x, "corner 100;");
        Checks.feed(x, HEAD);
        x.pavement();
        Sentence.due("the latest one, though a text without one was read", x.fault(), 2);
        x.feed(0, 9);
        x.row(9, 9, 9);
        Sentence.due("other refusals are none", x.fault(), 2);
    }

    // ---- what is told of it

    private static void whatASellerIs() {
        Sentence.says(11, "Of a SELLER: 0 GOODS, 1 CORNER, 2 FOLD, 3 WORTH, 4 FINE.");
        StringsSheet x = reads("corner 5;corner 6;corner 7;goods 2 9 3;goods 4 8 0;seller 1 2;seller 0 1;", 3);
        int[][] told = {{1, 2, 4, 8, 0}, {0, 1, 2, 9, 3}};
        for (int s = 0; s < 2; s++) {
            for (int what = 0; what < 5; what++) {
                Sentence.due("seller(" + s + ", " + what + ")", x.seller(s, what), told[s][what]);
            }
        }
        x.goes(0, 0);
        Sentence.due("where it went", x.seller(0, 1), 0);
        Sentence.says(11, "BAD.");
        for (int bad : new int[] {LEAST, -1, 5, MOST}) {
            Sentence.due("seller(0, " + bad + ")", x.seller(0, bad), Checks.BAD);
        }
        for (int bad : new int[] {LEAST, -1, 2, 5, MOST}) {
            Sentence.due("seller(" + bad + ", 0)", x.seller(bad, 0), Checks.BAD);
        }
        Sentence.due("no pavement", new StringsSheet().seller(0, 0), Checks.BAD);
        Sentence.due("nobody", reads(HEAD, 1).seller(0, 0), Checks.BAD);
    }

    private static void howMany() {
        Sentence.says(40, "How many: 0 ROWS, 1 CORNERS, 2 pairs of CORNERS with a street, 3 GOODS, 4 SELLERS, "
            + "5 WATCHERS, 6 CELLARS, 7 DAYS, 8 bytes on the tape.");
        StringsSheet x = reads("corner 1;".repeat(4) + "street 0 1 1;street 1 0 2;street 3 2 1;goods 1 1 1;goods 1 1 1;"
            + "seller 0 0;seller 0 0;seller 0 0;watcher 0;cellar 0 0;cellar 0 0;cellar 0 0;cellar 0 0;cellar 0 0;", 4);
        x.row(7, 0, 0);
        x.row(3, 1, 40);
        Checks.raid(x, 0);
        x.keep();
        x.raid(7, 0, 1);
        x.keep();
        x.feed(0, 3);
        int[] due = {2, 4, 2, 2, 3, 1, 5, 2, 3};
        for (int what = 0; what <= 8; what++) {
            Sentence.due("count(" + what + ")", x.count(what), due[what]);
        }
        for (int row = 0; row < 8; row++) {
            x.row(row, 0, 1);
        }
        Sentence.due("all rows", x.count(0), 8);
        StringsSheet none = new StringsSheet();
        for (int what = 0; what <= 8; what++) {
            Sentence.due("count(" + what + ") of a new one", none.count(what), 0);
        }
        int[] least = {0, 1, 0, 1, 0, 0, 0, 0, 0};
        StringsSheet small = reads(HEAD, 1);
        for (int what = 0; what <= 8; what++) {
            Sentence.due("count(" + what + ") of the least text", small.count(what), least[what]);
        }
    }

    private static void howManyIsRefused() {
        Sentence.says(40, "BAD.");
        for (int bad : new int[] {LEAST, -1, 9, MOST}) {
            Sentence.due("count(" + bad + ")", reads(HEAD, 1).count(bad), Checks.BAD);
            Sentence.due("count(" + bad + ") of a new one", new StringsSheet().count(bad), Checks.BAD);
        }
    }
}
