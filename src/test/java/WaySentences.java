/** Promises 9, 10, 12 and 28, sentence by sentence: walks, whistles, moves, ways of escape. */
final class WaySentences {
    private static final int LEAST = Integer.MIN_VALUE;
    private static final int MOST = Integer.MAX_VALUE;
    private static final String SEVEN = "corner 1;".repeat(7);

    private WaySentences() {
    }

    static void go() {
        walks();
        whistles();
        walksAreAsked();
        sellersGo();
        watchersGo();
        waysOfEscape();
        theMostWays();
        escapesAreAsked();
    }

    private static void walks() {
        Sentence.says(0, "WALK of two CORNERS: the least LONG of streets one behind the other, added (0 to itself); "
            + "none, if there is no way.");
        StringsSheet line = Checks.on(SEVEN + "street 0 1 20;street 1 2 20;street 2 3 20;street 3 4 20;street 4 5 20;"
            + "street 5 6 20;goods 1 1 1;");
        Sentence.due("the longest", line.walk(0, 6, 0), 120);
        Sentence.due("and back", line.walk(6, 0, 0), 120);
        Sentence.due("to itself", line.walk(6, 6, 0), 0);
        // Over every corner in turn, the first and the last among them.
        for (int over = 0; over < 7; over++) {
            int a = (over + 1) % 7;
            int b = (over + 3) % 7;
            StringsSheet x = Checks.on(SEVEN + "street " + a + " " + over + " 3;street " + over + " " + b + " 4;street "
                + b + " " + a + " 8;goods 1 1 1;");
            Sentence.due("over " + over, x.walk(a, b, 0), 7);
            Sentence.due("back over " + over, x.walk(b, a, 0), 7);
            Sentence.due("no way", x.walk(a, (over + 2) % 7, 0), Checks.NONE);
            Sentence.due("to itself", x.walk(over, over, 0), 0);
        }
        StringsSheet alike = Checks.on("corner 1;corner 1;corner 1;street 0 1 3;street 1 2 4;street 0 2 7;goods 1 1 1;");
        Sentence.due("as long either way", alike.walk(0, 2, 0), 7);
        StringsSheet alone = Checks.on("corner 1;corner 1;goods 1 1 1;");
        Sentence.due("without streets", alone.walk(0, 1, 0), Checks.NONE);
        Sentence.due("without streets, to itself", alone.walk(1, 1, 0), 0);
    }

    private static void whistles() {
        Sentence.says(0, "HEARD: likewise, of a whistle, by LONG by PASS, up to whole minutes, for each street.");
        for (int pass = 1; pass <= 9; pass++) {
            for (int distance : new int[] {1, pass, pass + 1, 2 * pass, 2 * pass + 1, 19, 20}) {
                StringsSheet x = Checks.on("corner 1;corner 1;street 0 1 " + distance + ";goods 1 1 1;law 0 0 " + pass + ";");
                int minutes = 0;
                while (minutes * pass < distance) {
                    minutes++;
                }
                Sentence.due("LONG " + distance + " by PASS " + pass, x.walk(0, 1, 1), minutes);
            }
        }
        StringsSheet each = Checks.on("corner 1;corner 1;corner 1;corner 1;street 0 1 4;street 1 2 4;goods 1 1 1;");
        Sentence.due("up for each street, not for all", each.walk(0, 2, 1), 4);
        Sentence.due("by itself", each.walk(3, 3, 1), 0);
        Sentence.due("not heard", each.walk(0, 3, 1), Checks.NONE);
        StringsSheet other = Checks.on("corner 1;corner 1;corner 1;street 0 1 1;street 1 2 1;street 0 2 9;goods 1 1 1;law 0 0 9;");
        Sentence.due("it walks over 1", other.walk(0, 2, 0), 2);
        Sentence.due("it is heard straight", other.walk(0, 2, 1), 1);
        StringsSheet two = Checks.on("corner 1;corner 1;street 0 1 7;street 0 1 6;goods 1 1 1;");
        Sentence.due("by the shorter of two", two.walk(1, 0, 1), 2);
    }

    private static void walksAreAsked() {
        Sentence.says(9, "WALK (what = 0), HEARD (1) of two CORNERS; NONE.");
        StringsSheet x = Checks.on("corner 1;corner 1;corner 1;street 0 1 10;goods 1 1 1;");
        Sentence.due("WALK", x.walk(0, 1, 0), 10);
        Sentence.due("HEARD", x.walk(0, 1, 1), 4);
        Sentence.due("NONE", x.walk(2, 0, 0), -1000000);
        Sentence.due("NONE", x.walk(0, 2, 1), -1000000);
        Sentence.says(9, "BAD.");
        for (int bad : new int[] {LEAST, -1, 3, 7, MOST}) {
            Sentence.due("walk(" + bad + ", 0, 0)", x.walk(bad, 0, 0), Checks.BAD);
            Sentence.due("walk(0, " + bad + ", 1)", x.walk(0, bad, 1), Checks.BAD);
            Sentence.due("walk(" + bad + ", " + bad + ", 0)", x.walk(bad, bad, 0), Checks.BAD);
        }
        for (int bad : new int[] {LEAST, -1, 2, MOST}) {
            Sentence.due("walk(0, 1, " + bad + ")", x.walk(0, 1, bad), Checks.BAD);
        }
        Sentence.due("no pavement", new StringsSheet().walk(0, 0, 0), Checks.BAD);
    }

    private static void sellersGo() {
        Sentence.says(10, "A SELLER goes to a CORNER: where it was.");
        StringsSheet x = Checks.on("corner 1;corner 1;corner 1;goods 1 1 1;seller 0 2;seller 0 0;law 20 0 1;");
        Sentence.due("from 2 to 0", x.goes(0, 0), 2);
        Sentence.due("it is there, where the law would not have it", x.seller(0, 1), 0);
        Sentence.due("the other one stays", x.seller(1, 1), 0);
        Sentence.due("from 0 to 0", x.goes(0, 0), 0);
        Sentence.due("from 0 to 1, without a street", x.goes(0, 1), 0);
        Sentence.due("from 1 to 2", x.goes(0, 2), 1);
        Sentence.due("the other one from 0", x.goes(1, 2), 0);
        Sentence.says(10, "BAD.");
        for (int bad : new int[] {LEAST, -1, 2, 5, MOST}) {
            Sentence.due("goes(" + bad + ", 0)", x.goes(bad, 0), Checks.BAD);
        }
        for (int bad : new int[] {LEAST, -1, 3, 7, MOST}) {
            Sentence.due("goes(0, " + bad + ")", x.goes(0, bad), Checks.BAD);
        }
        Sentence.due("where it was stays", x.seller(0, 1), 2);
        Sentence.due("no pavement", new StringsSheet().goes(0, 0), Checks.BAD);
    }

    private static void watchersGo() {
        Sentence.says(12, "A WATCHER goes to a CORNER: where it was.");
        StringsSheet x = Checks.on("corner 1;corner 1;corner 1;goods 1 1 1;seller 0 2;watcher 2;watcher 0;");
        Sentence.due("heard at 2", x.nothing(0), 12);
        Sentence.due("from 2 to 1", x.watch(0, 1), 2);
        Sentence.due("heard no more", x.nothing(0), 0);
        Sentence.due("the other one from 0 to 2", x.watch(1, 2), 0);
        Sentence.due("heard at 2", x.nothing(1), 12);
        Sentence.due("from 1 to 1", x.watch(0, 1), 1);
        Sentence.due("from 1 to 0", x.watch(0, 0), 1);
        Sentence.says(12, "BAD.");
        for (int bad : new int[] {LEAST, -1, 2, 4, MOST}) {
            Sentence.due("watch(" + bad + ", 0)", x.watch(bad, 0), Checks.BAD);
        }
        for (int bad : new int[] {LEAST, -1, 3, 7, MOST}) {
            Sentence.due("watch(0, " + bad + ")", x.watch(0, bad), Checks.BAD);
        }
        Sentence.due("where it was stays", x.watch(0, 0), 0);
        Sentence.due("no pavement", new StringsSheet().watch(0, 0), Checks.BAD);
    }

    private static void waysOfEscape() {
        Sentence.says(0, "ESCAPES from a CORNER to another one: the most ways that have no CORNER in common "
            + "but these two.");
        StringsSheet none = Checks.on("corner 1;corner 1;goods 1 1 1;");
        Sentence.due("no street at all", none.escapes(0, 1), 0);
        StringsSheet line = Checks.on(SEVEN + "street 6 5 1;street 5 4 1;street 4 3 1;street 3 2 1;street 2 1 1;goods 1 1 1;");
        Sentence.due("a street", line.escapes(6, 5), 1);
        Sentence.due("the longest way", line.escapes(6, 1), 1);
        Sentence.due("no way", line.escapes(6, 0), 0);
        StringsSheet twice = Checks.on("corner 1;corner 1;street 0 1 2;street 1 0 3;goods 1 1 1;");
        Sentence.due("two streets between the same are one way", twice.escapes(0, 1), 1);
        StringsSheet ring = Checks.on(SEVEN + "street 0 1 1;street 1 2 1;street 2 3 1;street 3 4 1;street 4 5 1;"
            + "street 5 6 1;street 6 0 1;goods 1 1 1;");
        for (int b = 1; b < 7; b++) {
            Sentence.due("both ways round to " + b, ring.escapes(0, b), 2);
        }
    }

    private static void theMostWays() {
        // Corners a and b, each with a street to every other one: six ways, one of them straight.
        int[][] ends = {{0, 1}, {0, 6}, {5, 6}, {2, 4}};
        for (int[] pair : ends) {
            StringBuilder text = new StringBuilder(SEVEN);
            for (int c = 0; c < 7; c++) {
                if (c != pair[0] && c != pair[1]) {
                    text.append("street ").append(pair[0]).append(' ').append(c).append(" 1;");
                    text.append("street ").append(c).append(' ').append(pair[1]).append(" 1;");
                }
            }
            StringsSheet five = Checks.on(text + "goods 1 1 1;");
            Sentence.due("five ways", five.escapes(pair[0], pair[1]), 5);
            StringsSheet six = Checks.on(text + "street " + pair[1] + " " + pair[0] + " 20;goods 1 1 1;");
            Sentence.due("six ways", six.escapes(pair[0], pair[1]), 6);
            Sentence.due("six ways back", six.escapes(pair[1], pair[0]), 6);
        }
        // The short way 0 1 4 3 would shut both others, 0 1 5 3 and 0 2 4 3.
        StringsSheet crossed = Checks.on(SEVEN + "street 0 1 1;street 0 2 9;street 1 4 1;street 2 4 9;street 1 5 9;"
            + "street 4 3 1;street 5 3 9;goods 1 1 1;");
        Sentence.due("not by the short way", crossed.escapes(0, 3), 2);
        StringsSheet bridge = Checks.on(SEVEN + "street 0 1 1;street 0 2 1;street 1 3 1;street 2 3 1;street 3 4 1;"
            + "street 3 5 1;street 4 6 1;street 5 6 1;goods 1 1 1;");
        Sentence.due("a corner in common", bridge.escapes(0, 6), 1);
        Sentence.due("up to that corner", bridge.escapes(0, 3), 2);
        Sentence.due("from that corner on", bridge.escapes(3, 6), 2);
    }

    private static void escapesAreAsked() {
        Sentence.says(28, "ESCAPES.");
        StringsSheet x = Checks.on("corner 1;corner 1;corner 1;street 0 1 10;goods 1 1 1;");
        Sentence.due("one", x.escapes(0, 1), 1);
        Sentence.due("none is no refusal", x.escapes(0, 2), 0);
        Sentence.says(28, "BAD (alike, too).");
        for (int c = 0; c < 3; c++) {
            Sentence.due("alike", x.escapes(c, c), Checks.BAD);
        }
        for (int bad : new int[] {LEAST, -1, 3, 7, MOST}) {
            Sentence.due("escapes(" + bad + ", 0)", x.escapes(bad, 0), Checks.BAD);
            Sentence.due("escapes(0, " + bad + ")", x.escapes(0, bad), Checks.BAD);
            Sentence.due("escapes(" + bad + ", " + bad + ")", x.escapes(bad, bad), Checks.BAD);
        }
        Sentence.due("no pavement", new StringsSheet().escapes(0, 1), Checks.BAD);
    }
}
