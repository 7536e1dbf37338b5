/** Promises 36 to 39: kinds of sellers, and what they answer. */
public final class AskedTest {
    // Corner 0 earns 1: what goods 0 lose, 61, is above 60; what goods 1 lose, 60, is not.
    private static final String TEXT = "corner 1;corner 50;corner 9;street 0 1 20;goods 9 40 21;goods 9 40 20;"
        + "goods 2 30 5;seller 0 0;seller 1 0;seller 2 1;seller 2 2;watcher 0;law 0 6 9;";

    private static final int[][] TAKEN = {{}, {0, 1}, {0, 1, 2}, {0, 3}, {0, 3, 4}};

    public static void main(String[] args) {
        freeBeforeARaid();
        kindsByARaid();
        askedOfEach();
        refusals();
        Checks.end();
    }

    private static void kind(StringsSheet x, int seller, int kind) {
        Checks.due("kind(" + seller + ")", x.kind(seller), kind);
        for (int other = 0; other <= 4; other++) {
            boolean taken = false;
            for (int k : TAKEN[kind]) {
                taken |= k == other;
            }
            Checks.due("as(" + seller + ", " + other + ")", x.as(seller, other), taken ? seller : Checks.KIND);
            Checks.due("status()", x.status(), taken ? 0 : 3);
        }
    }

    private static void ask(StringsSheet x, int seller, int what, long answer, int... trace) {
        String call = "ask(" + seller + ", " + what + ")";
        Checks.due(call, x.ask(seller, what), answer);
        for (int i = 0; i < trace.length; i++) {
            Checks.due("trace(" + i + ") of " + call, x.trace(i), trace[i]);
        }
        Checks.due("behind the trace of " + call, x.trace(trace.length), Checks.NONE);
        Checks.due("ahead of the trace of " + call, x.trace(-1), Checks.NONE);
    }

    private static void freeBeforeARaid() {
        StringsSheet x = Checks.on(TEXT);
        for (int s = 0; s < 4; s++) {
            kind(x, s, 1);
        }
        ask(x, 3, 0, 30 + 3 + 20, 11, 10, 21, 20);
        ask(x, 3, 1, 3 + 20, 21, 20);
    }

    private static StringsSheet raided() {
        StringsSheet x = Checks.on(TEXT);
        Checks.due("caught", Checks.raid(x, 0, 1), 3);
        return x;
    }

    private static void kindsByARaid() {
        StringsSheet x = raided();
        kind(x, 0, 4);
        kind(x, 1, 3);
        kind(x, 2, 2);
        kind(x, 3, 1);
        Checks.raid(x, 2);
        kind(x, 0, 1);
        kind(x, 3, 3);
        Checks.items(x, 0, 2, 0);
        x.two(0, 0, 1, 1);
        kind(x, 0, 4);
        kind(x, 3, 3);
        Checks.feed(x, TEXT);
        x.pavement();
        kind(x, 0, 1);
    }

    private static void askedOfEach() {
        StringsSheet x = raided();
        ask(x, 0, 0, 2 * (-40 - 21), 14, 13, 10);
        ask(x, 0, 1, 0 + 122, 22, 20, 14, 13, 10);
        ask(x, 1, 0, -40 - 20, 13, 10);
        ask(x, 1, 1, 1 + 60, 22, 20, 13, 10);
        ask(x, 2, 0, 30 + (2 + 10 + 500) - (2 + 6), 12, 11, 10, 23, 21, 20);
        ask(x, 2, 1, 2 + 10 + 500, 23, 21, 20);
        ask(x, 3, 0, 30 + 3 + 20, 11, 10, 21, 20);
        ask(x, 3, 1, 3 + 20, 21, 20);
        x.goes(2, 2);
        ask(x, 2, 1, 2 + 20 + 500, 23, 21, 20);
    }

    private static void refusals() {
        StringsSheet x = raided();
        x.ask(1, 0);
        Checks.due("no such seller", x.ask(4, 0), Checks.BAD);
        Checks.due("no such seller", x.ask(-1, 0), Checks.BAD);
        Checks.due("what", x.ask(0, 2), Checks.BAD);
        Checks.due("what", x.ask(0, -1), Checks.BAD);
        Checks.due("the trace stays when refused", x.trace(0), 13);
        Checks.due("trace(16)", x.trace(16), Checks.NONE);
        Checks.due("trace(greatest)", x.trace(Integer.MAX_VALUE), Checks.NONE);
        Checks.due("no such seller", x.kind(4), Checks.BAD);
        Checks.due("no such seller", x.kind(-1), Checks.BAD);
        Checks.due("no such seller", x.as(4, 0), Checks.BAD);
        Checks.due("no such kind", x.as(0, 5), Checks.BAD);
        Checks.due("no such kind", x.as(0, -1), Checks.BAD);
        StringsSheet none = new StringsSheet();
        Checks.due("no pavement", none.kind(0), Checks.BAD);
        Checks.due("no pavement", none.as(0, 0), Checks.BAD);
        Checks.due("no pavement", none.ask(0, 0), Checks.BAD);
    }
}
