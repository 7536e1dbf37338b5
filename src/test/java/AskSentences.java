import java.util.function.Consumer;

/** Promises 34 to 39, sentence by sentence: images, kinds of sellers, what they answer. */
final class AskSentences {
    private static final int LEAST = Integer.MIN_VALUE;
    private static final int MOST = Integer.MAX_VALUE;
    private static final int FREE = 1;
    private static final int FLED = 2;
    private static final int CAUGHT = 3;
    private static final int RUINED = 4;

    // By the raid 0 1 seller 0 is RUINED, 1 CAUGHT, 2 FLED, 3 and 4 are FREE: at corner 0, which earns 1, goods 0 lose
    // 61 and goods 1 lose 60; seller 2 hears of it at 3 and has folded up at 5, when the raid is still on its way.
    private static final String TOWN = "corner 1;corner 50;corner 9;street 0 1 20;goods 9 40 21;goods 9 40 20;"
        + "goods 2 30 5;seller 0 0;seller 1 0;seller 2 1;seller 2 2;seller 0 2;watcher 0;law 0 6 9;";

    private AskSentences() {
    }

    static void go() {
        anImageIsKept();
        anImageIsRefused();
        anImageIsRestored();
        restoreIsRefused();
        kinds();
        ruinedByOneMore();
        kindsByTheLatest();
        theGreatestKind();
        traces();
        sizes();
        marks();
        theNearestBody();
        kindIsAsked();
        asIsAsked();
        askIsAsked();
        traceIsAsked();
    }

    private static StringsSheet raided() {
        StringsSheet x = Checks.on(TOWN);
        Checks.raid(x, 0, 1);
        return x;
    }

    // ---- images

    private static void town(StringsSheet x) {
        Checks.feed(x, "corner 5;corner 6;corner 7;street 0 1 20;street 1 2 4;goods 2 9 3;goods 1 8 1;seller 0 1;seller 0 1;"
            + "seller 1 2;watcher 0;watcher 2;cellar 1 3;cellar 0 1;cellar 2 9;law 2 5 4;");
        x.pavement();
        Checks.raid(x, 0, 1, 2);
        x.keep();
        x.owe(0, 1, 4);
        x.owe(1, 0, 6);
        x.goes(1, 0);
        x.watch(1, 1);
        Checks.items(x, 7, 0, 1, 2);
        Checks.items(x, 1, 2, 1);
        Checks.items(x, 2, 2, 1);
    }

    /** What is kept is brought back from behind all calls that change it, and from behind none. */
    private static void cameBack(String what, Consumer<StringsSheet> made, Consumer<StringsSheet> change) {
        StringsSheet one = new StringsSheet();
        StringsSheet other = new StringsSheet();
        town(one);
        town(other);
        made.accept(one);
        made.accept(other);
        for (int k = 0; k < 2; k++) {
            Sentence.due("image(" + k + ")", one.image(k), 1);
            Sentence.due("image(" + k + ")", other.image(k), 1);
        }
        change.accept(one);
        Sentence.due("restore(0)", one.restore(0), 1);
        Probe.same(what, Probe.wholly(one), Probe.wholly(other));
    }

    private static void changeAll(StringsSheet x) {
        x.goes(0, 2);
        x.goes(1, 2);
        x.watch(0, 2);
        x.watch(1, 2);
        x.raid(7, 0, 2);
        x.keep();
        x.owe(2, 0, 9);
        x.passed();
        x.settle();
    }

    private static void otherPavement(StringsSheet x) {
        Checks.feed(x, "corner 50;corner 60;corner 70;corner 80;street 0 3 1;street 0 2 1;goods 9 1 0;goods 3 2 1;goods 4 4 4;"
            + "seller 2 3;seller 2 3;seller 1 3;seller 0 0;watcher 3;watcher 3;watcher 3;cellar 3 30;law 9 20 1;");
        Sentence.due("another pavement", x.pavement(), 4);
        x.raid(7, 0, 1);
        x.keep();
        x.owe(3, 0, 77);
    }

    private static void anImageIsKept() {
        Sentence.says(34, "An IMAGE (0, 1) is kept of the PAVEMENT, where all stand, DAYS, what is OWED, the latest RAID: 1.");
        StringsSheet x = Checks.on(TOWN);
        x.image(0);
        x.goes(0, 1);
        x.image(1);
        x.goes(0, 2);
        x.restore(0);
        Sentence.due("image 0", x.seller(0, 1), 0);
        x.restore(1);
        Sentence.due("image 1", x.seller(0, 1), 1);
        x.goes(0, 2);
        Sentence.due("a newer image 1", x.image(1), 1);
        x.restore(0);
        Sentence.due("image 0 again", x.seller(0, 1), 0);
        x.restore(1);
        Sentence.due("the newer image 1", x.seller(0, 1), 2);
        x.goes(0, 0);
        x.restore(1);
        Sentence.due("the image is not changed by what came behind restore()", x.seller(0, 1), 2);
    }

    private static void anImageIsRefused() {
        Sentence.says(34, "BAD; STATE: no PAVEMENT.");
        StringsSheet none = new StringsSheet();
        StringsSheet x = Checks.on(TOWN);
        for (int bad : new int[] {LEAST, -1, 2, MOST}) {
            Sentence.due("image(" + bad + ")", x.image(bad), Checks.BAD);
            Sentence.due("image(" + bad + "), no pavement", none.image(bad), Checks.BAD);
        }
        Sentence.due("image(0), no pavement", none.image(0), Checks.STATE);
        Sentence.due("image(1), no pavement", none.image(1), Checks.STATE);
        Sentence.due("no image was kept", none.restore(0), Checks.STATE);
        Sentence.due("image(0)", x.image(0), 1);
        Sentence.due("image(1)", x.image(1), 1);
    }

    private static void anImageIsRestored() {
        Sentence.says(35, "All of these are as an IMAGE kept them: 1.");
        Consumer<StringsSheet> asItIs = x -> { };
        Consumer<StringsSheet> kept = x -> {
            x.raid(7, 0, 3);
            x.keep();
        };
        Consumer<StringsSheet> notKept = x -> x.raid(7, 0, 3);
        Consumer<StringsSheet> ofTwo = x -> x.two(7, 0, 1, 2);
        Consumer<StringsSheet> fullDays = x -> {
            for (int day = 0; day < 12; day++) {
                x.raid(7, 1, 2);
                x.keep();
            }
            x.raid(7, 0, 3);
        };
        cameBack("behind nothing", asItIs, asItIs);
        cameBack("behind changes", asItIs, AskSentences::changeAll);
        cameBack("behind another pavement", asItIs, AskSentences::otherPavement);
        cameBack("with a raid that is kept", kept, AskSentences::changeAll);
        cameBack("with a raid that is not kept", notKept, AskSentences::changeAll);
        cameBack("with a raid that is not kept, behind keep()", notKept, StringsSheet::keep);
        cameBack("with a raid that is not kept, behind another pavement", notKept, AskSentences::otherPavement);
        cameBack("with a raid of two", ofTwo, AskSentences::otherPavement);
        cameBack("with a raid of two, behind changes", ofTwo, AskSentences::changeAll);
        cameBack("with all days", fullDays, AskSentences::otherPavement);
        cameBack("by two images", notKept, x -> {
            otherPavement(x);
            x.restore(1);
            changeAll(x);
        });
        StringsSheet x = Checks.on(TOWN);
        x.image(0);
        Checks.raid(x, 0, 1);
        x.restore(0);
        Sentence.due("no raid then", x.after(-1, 4), Checks.STATE);
        Sentence.due("no raid then", x.kind(0), FREE);
        Sentence.due("rows are not of an image", x.drop(7), 2);
    }

    private static void restoreIsRefused() {
        Sentence.says(35, "BAD; STATE: none was kept.");
        StringsSheet x = Checks.on(TOWN);
        for (int bad : new int[] {LEAST, -1, 2, MOST}) {
            Sentence.due("restore(" + bad + ")", x.restore(bad), Checks.BAD);
        }
        Sentence.due("restore(0)", x.restore(0), Checks.STATE);
        Sentence.due("restore(1)", x.restore(1), Checks.STATE);
        x.image(1);
        Sentence.due("restore(0), only 1 was kept", x.restore(0), Checks.STATE);
        Sentence.due("restore(1)", x.restore(1), 1);
        Sentence.due("restore(1) again", x.restore(1), 1);
        x.image(0);
        Checks.feed(x, "corner 1;goods 1 1 1;");
        x.pavement();
        Sentence.due("behind another pavement", x.restore(0), 1);
        Sentence.due("its sellers", x.count(4), 5);
        StringsSheet none = new StringsSheet();
        Sentence.due("no pavement, BAD", none.restore(2), Checks.BAD);
        Sentence.due("no pavement", none.restore(0), Checks.STATE);
    }

    // ---- kinds

    private static final int[][] TAKEN = {{}, {0, 1}, {0, 1, 2}, {0, 3}, {0, 3, 4}};

    private static void kind(StringsSheet x, int seller, int kind) {
        Sentence.due("kind(" + seller + ")", x.kind(seller), kind);
        for (int other = 0; other <= 4; other++) {
            boolean taken = false;
            for (int k : TAKEN[kind]) {
                taken |= k == other;
            }
            Sentence.due("as(" + seller + ", " + other + ")", x.as(seller, other), taken ? seller : Checks.KIND);
        }
    }

    private static void kinds() {
        Sentence.says(0, "KINDS of SELLERS, by the latest RAID (raid(), two()) of this PAVEMENT: 0 SELLER; 1 FREE, a SELLER: it "
            + "STANDS, or there was none; 2 FLED, a FREE one; 3 CAUGHT, a SELLER; 4 RUINED, a CAUGHT one: LOST is above 60 "
            + "times EARNS of its CORNER.");
        StringsSheet none = Checks.on(TOWN);
        for (int s = 0; s < 5; s++) {
            kind(none, s, FREE);
        }
        StringsSheet x = raided();
        kind(x, 0, RUINED);
        kind(x, 1, CAUGHT);
        kind(x, 2, FLED);
        kind(x, 3, FREE);
        kind(x, 4, FREE);
    }

    private static void ruinedByOneMore() {
        // EARNS, WORTH, FINE, and whether that ruins.
        int[][] towns = {{0, 1, 0, 1}, {1, 60, 0, 0}, {1, 1, 59, 0}, {1, 61, 0, 1}, {1, 1, 60, 1}, {2, 60, 60, 0}, {2, 61, 60, 1},
            {3, 90, 90, 0}, {3, 91, 90, 1}, {3, 99, 99, 1}, {4, 99, 99, 0}, {99, 99, 99, 0}};
        for (int[] t : towns) {
            StringsSheet x = Checks.on("corner " + t[0] + ";corner 99;goods 1 " + t[1] + " " + t[2] + ";seller 0 0;");
            Checks.raid(x, 0);
            kind(x, 0, t[3] == 1 ? RUINED : CAUGHT);
        }
        // What others lose beside it does not ruin a seller.
        StringsSheet two = Checks.on("corner 1;goods 1 60 0;seller 0 0;seller 0 0;");
        Checks.raid(two, 0);
        Sentence.due("lost in all", two.after(-1, 4), 120);
        kind(two, 0, CAUGHT);
        kind(two, 1, CAUGHT);
    }

    private static void kindsByTheLatest() {
        StringsSheet x = raided();
        Checks.raid(x, 2);
        kind(x, 0, FREE);
        kind(x, 3, CAUGHT);
        Checks.items(x, 0, 0, 2);
        x.two(0, 0, 1, 1);
        kind(x, 0, RUINED);
        kind(x, 2, FLED);
        kind(x, 3, CAUGHT);
        x.two(0, 0, 2, 1);
        kind(x, 0, RUINED);
        x.keep();
        kind(x, 0, RUINED);
        Checks.feed(x, TOWN);
        x.pavement();
        kind(x, 0, FREE);
        kind(x, 3, FREE);
    }

    private static void theGreatestKind() {
        Sentence.says(0, "It is told as RUINED, else CAUGHT, else FLED, else FREE: by this it is asked.");
        StringsSheet x = raided();
        int[] told = {RUINED, CAUGHT, FLED, FREE, FREE};
        int[] size = {14, 13, 12, 11, 11};
        int[] mark = {22, 22, 23, 21, 21};
        for (int s = 0; s < 5; s++) {
            Sentence.due("kind(" + s + ")", x.kind(s), told[s]);
            x.ask(s, 0);
            Sentence.due("the first body of SIZE", x.trace(0), size[s]);
            x.ask(s, 1);
            Sentence.due("the first body of MARK", x.trace(0), mark[s]);
        }
        x.as(0, 0);
        Sentence.due("as() does not change it", x.kind(0), RUINED);
    }

    // ---- asks

    private static void ask(StringsSheet x, int seller, int what, long answer, int... trace) {
        String call = "ask(" + seller + ", " + what + ")";
        Sentence.due(call, x.ask(seller, what), answer);
        for (int i = 0; i < 16; i++) {
            Sentence.due("trace(" + i + ") of " + call, x.trace(i), i < trace.length ? trace[i] : Checks.NONE);
        }
    }

    private static void traces() {
        Sentence.says(0, "ASKS of SELLERS, by BODIES, each of which leaves its number in THE TRACE as it begins (the first 16):");
        StringsSheet x = raided();
        ask(x, 0, 0, 2 * (-40 - 21), 14, 13, 10);
        ask(x, 0, 1, 2 * (40 + 21), 22, 20, 14, 13, 10);
        ask(x, 1, 0, -40 - 20, 13, 10);
        ask(x, 1, 1, 1 + 60, 22, 20, 13, 10);
        ask(x, 2, 0, 30 + (2 + 10 + 500) - (2 + 6), 12, 11, 10, 23, 21, 20);
        ask(x, 2, 1, 2 + 10 + 500, 23, 21, 20);
        ask(x, 3, 0, 30 + (3 + 20), 11, 10, 21, 20);
        ask(x, 3, 1, 3 + 20, 21, 20);
        ask(x, 4, 0, 40 + (4 + 20), 11, 10, 21, 20);
        ask(x, 4, 1, 4 + 20, 21, 20);
    }

    private static void sizes() {
        Sentence.says(0, "0 SIZE: 10 lent to all SELLERS: WORTH.");
        StringsSheet x = Checks.on("corner 0;corner 9;street 0 1 20;goods 1 99 99;goods 9 1 0;seller 0 0;seller 1 1;watcher 0;law 0 30 9;");
        x.ask(0, 0);
        Sentence.due("10 is begun", x.trace(1), 10);
        Sentence.says(0, "11 of FREE ones: what 10 gives, and MARK.");
        ask(x, 0, 0, 99 + 0, 11, 10, 21, 20);
        ask(x, 1, 0, 1 + (1 + 10), 11, 10, 21, 20);
        Checks.raid(x, 0, 1);
        Sentence.says(0, "12 of FLED ones: what 11 gives, less GONE.");
        ask(x, 1, 0, 1 + (1 + 10 + 500) - (9 + 30), 12, 11, 10, 23, 21, 20);
        Sentence.says(0, "14 of RUINED ones: what 13 gives, twice.");
        ask(x, 0, 0, 2 * (-99 - 99), 14, 13, 10);
        Sentence.says(0, "13 of CAUGHT ones: 0 less what 10 gives, less FINE.");
        StringsSheet caught = Checks.on("corner 99;goods 1 99 99;goods 1 1 0;seller 0 0;seller 1 0;");
        Checks.raid(caught, 0);
        ask(caught, 0, 0, -198, 13, 10);
        ask(caught, 1, 0, -1, 13, 10);
    }

    private static void marks() {
        Sentence.says(0, "1 MARK: 20 lent to all SELLERS: its number.");
        StringsSheet x = Checks.on("corner 99;".repeat(6) + "corner 0;street 0 6 20;goods 1 99 99;" + "seller 0 0;".repeat(5)
            + "watcher 0;law 0 0 9;");
        for (int s = 0; s < 5; s++) {
            Sentence.due("at corner 0, MARK of " + s, x.ask(s, 1), s);
            Sentence.due("20 is begun", x.trace(1), 20);
        }
        Sentence.says(0, "21 of FREE ones: what 20 gives, and 10 times its CORNER.");
        x.goes(4, 6);
        ask(x, 4, 1, 4 + 60, 21, 20);
        x.goes(0, 1);
        ask(x, 0, 1, 0 + 10, 21, 20);
        Sentence.says(0, "23 of FLED ones: what 21 gives, and 500.");
        Checks.raid(x, 0);
        ask(x, 4, 1, 4 + 60 + 500, 23, 21, 20);
        Sentence.says(0, "22 of CAUGHT ones: what 20 gives, less SIZE.");
        ask(x, 3, 1, 3 + 198, 22, 20, 13, 10);
        x.watch(0, 5);
        Checks.raid(x, 6);
        ask(x, 4, 1, 4 + 2 * 198, 22, 20, 14, 13, 10);
    }

    private static void theNearestBody() {
        Sentence.says(0, "(Of an ask the BODY told for the KIND begins, else that of the nearest KIND that it is, too, else the "
            + "one that is lent; SIZE, MARK within others are asked of the same SELLER anew.)");
        StringsSheet x = raided();
        // MARK of a RUINED one has no body of its own: 22, of the CAUGHT; within it SIZE is 14 again.
        ask(x, 0, 1, 122, 22, 20, 14, 13, 10);
        // Within 12 and 11 MARK is that of a FLED one again.
        ask(x, 2, 0, 534, 12, 11, 10, 23, 21, 20);
        x.goes(2, 0);
        ask(x, 2, 0, 524, 12, 11, 10, 23, 21, 20);
    }

    // ---- promises

    private static void kindIsAsked() {
        Sentence.says(36, "The KIND of a SELLER, as it is told (1 to 4).");
        StringsSheet x = raided();
        int[] told = {RUINED, CAUGHT, FLED, FREE, FREE};
        for (int s = 0; s < 5; s++) {
            Sentence.due("kind(" + s + ")", x.kind(s), told[s]);
        }
        Sentence.says(36, "BAD.");
        for (int bad : new int[] {LEAST, -1, 5, MOST}) {
            Sentence.due("kind(" + bad + ")", x.kind(bad), Checks.BAD);
        }
        Sentence.due("no pavement", new StringsSheet().kind(0), Checks.BAD);
        Sentence.due("nobody", Checks.on("corner 1;goods 1 1 1;").kind(0), Checks.BAD);
    }

    private static void asIsAsked() {
        Sentence.says(37, "A SELLER is taken as one of a KIND (0 .. 4): its number.");
        StringsSheet x = raided();
        for (int s = 0; s < 5; s++) {
            Sentence.due("as(" + s + ", 0)", x.as(s, 0), s);
        }
        Sentence.due("as(0, 4)", x.as(0, 4), 0);
        Sentence.due("as(0, 3)", x.as(0, 3), 0);
        Sentence.due("as(1, 3)", x.as(1, 3), 1);
        Sentence.due("as(2, 2)", x.as(2, 2), 2);
        Sentence.due("as(2, 1)", x.as(2, 1), 2);
        Sentence.due("as(4, 1)", x.as(4, 1), 4);
        Sentence.says(37, "BAD; KIND: it is not taken so.");
        Sentence.due("as(0, 1)", x.as(0, 1), Checks.KIND);
        Sentence.due("as(0, 2)", x.as(0, 2), Checks.KIND);
        Sentence.due("as(1, 4)", x.as(1, 4), Checks.KIND);
        Sentence.due("as(2, 3)", x.as(2, 3), Checks.KIND);
        Sentence.due("as(3, 2)", x.as(3, 2), Checks.KIND);
        Sentence.due("as(3, 4)", x.as(3, 4), Checks.KIND);
        for (int bad : new int[] {LEAST, -1, 5, MOST}) {
            Sentence.due("as(" + bad + ", 0)", x.as(bad, 0), Checks.BAD);
            Sentence.due("as(0, " + bad + ")", x.as(0, bad), Checks.BAD);
            Sentence.due("as(" + bad + ", " + bad + ")", x.as(bad, bad), Checks.BAD);
        }
        Sentence.due("no pavement", new StringsSheet().as(0, 0), Checks.BAD);
    }

    private static void askIsAsked() {
        Sentence.says(38, "An ASK (0, 1) of a SELLER.");
        StringsSheet x = raided();
        Sentence.due("SIZE", x.ask(1, 0), -60);
        Sentence.due("MARK", x.ask(1, 1), 61);
        Sentence.says(38, "BAD.");
        for (int bad : new int[] {LEAST, -1, 5, MOST}) {
            Sentence.due("ask(" + bad + ", 0)", x.ask(bad, 0), Checks.BAD);
        }
        for (int bad : new int[] {LEAST, -1, 2, MOST}) {
            Sentence.due("ask(0, " + bad + ")", x.ask(0, bad), Checks.BAD);
        }
        Sentence.due("a refused ask leaves the trace", x.trace(0), 22);
        Sentence.due("a refused ask leaves the trace", x.trace(3), 10);
        Sentence.due("no pavement", new StringsSheet().ask(0, 0), Checks.BAD);
        Sentence.says(38, "THE TRACE is empty ahead of it.");
        ask(x, 2, 0, 534, 12, 11, 10, 23, 21, 20);
        ask(x, 3, 1, 23, 21, 20);
        ask(x, 3, 1, 23, 21, 20);
    }

    private static void traceIsAsked() {
        Sentence.says(39, "Number i of THE TRACE; NONE.");
        StringsSheet x = raided();
        Sentence.due("before an ask", x.trace(0), Checks.NONE);
        Sentence.due("before an ask", x.trace(-1), Checks.NONE);
        x.ask(2, 0);
        Sentence.due("the first", x.trace(0), 12);
        Sentence.due("the last", x.trace(5), 20);
        for (int none : new int[] {LEAST, -1, 6, 15, 16, 17, MOST}) {
            Sentence.due("trace(" + none + ")", x.trace(none), Checks.NONE);
        }
        x.kind(0);
        x.as(0, 0);
        x.raid(7, 0, 1);
        Checks.feed(x, TOWN);
        x.pavement();
        Sentence.due("it stays till the next ask", x.trace(0), 12);
        Sentence.due("it stays till the next ask", x.trace(5), 20);
    }
}
