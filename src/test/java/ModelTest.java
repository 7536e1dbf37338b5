import java.util.Random;

/** Random runs of calls, answered by the class and by the plain model: all promises. */
public final class ModelTest {
    private static final int RUNS = 1500;

    private final Random random;
    private final StringsSheet x = new StringsSheet();
    private final Model m = new Model();
    private final int run;
    // Few different numbers, so that many scores, sums and ways are alike.
    private final boolean narrow;
    private int calls = 0;

    private ModelTest(int run) {
        this.run = run;
        narrow = run % 3 == 1;
        random = new Random(7919L * run + 1);
    }

    public static void main(String[] args) {
        int runs = args.length > 0 ? Integer.parseInt(args[0]) : RUNS;
        for (int run = 0; run < runs; run++) {
            new ModelTest(run).go();
        }
        Checks.end();
    }

    private void go() {
        if (random.nextInt(10) > 0) {
            layPavement();
        }
        boolean heavy = run % 5 == 0;
        while (calls < 500) {
            call(random.nextInt(heavy ? 50 : 44));
            same("status()", x.status(), m.status);
        }
    }

    private void same(String call, long got, long want) {
        calls++;
        Checks.due("run " + run + ", call " + calls + ": " + call, got, want);
    }

    private int upTo(int n) {
        return random.nextInt(n + 1);
    }

    /** Mostly within 0 .. n - 1, now and then beyond an end. */
    private int about(int n) {
        int sort = random.nextInt(25);
        if (sort == 0) {
            return -1;
        }
        if (sort == 1) {
            return n;
        }
        if (sort == 2 && random.nextInt(4) == 0) {
            return random.nextBoolean() ? Integer.MIN_VALUE : Integer.MAX_VALUE;
        }
        return n <= 0 ? 0 : random.nextInt(n);
    }

    private int aCorner() {
        return about(m.corners());
    }

    private int aSeller() {
        return about(m.sellers());
    }

    private int aWatcher() {
        return about((int) m.count(5));
    }

    // ---- texts

    private void layPavement() {
        String text = text();
        if (random.nextInt(4) == 0) {
            text = spoil(text);
        }
        if (text.length() > 600 && random.nextInt(10) > 0) {
            text = text.substring(0, 600);
        }
        for (int i = 0; i < text.length();) {
            int n = Math.min(1 + random.nextInt(8), text.length() - i);
            if (random.nextInt(8) > 0) {
                n = Math.min(8, text.length() - i);
            }
            long w = random.nextLong();
            for (int k = 0; k < n; k++) {
                w = w << 8 | text.charAt(i + k) & 255;
            }
            same("feed", x.feed(w, n), m.feed(w, n));
            i += n;
        }
        same("pavement() of " + text, x.pavement(), m.pavement());
        same("fault()", x.fault(), m.fault);
    }

    private String gap() {
        int sort = random.nextInt(20);
        return sort == 0 ? "\n" : sort == 1 ? "  " : " ";
    }

    private String line(String word, int... numbers) {
        StringBuilder b = new StringBuilder(word);
        for (int n : numbers) {
            b.append(gap()).append(n);
        }
        return b.append(random.nextInt(15) == 0 ? " ;\n" : ";").toString();
    }

    private int within(int low, int high, int narrowHigh) {
        return low + upTo((narrow ? narrowHigh : high) - low);
    }

    private int earning() {
        if (narrow) {
            return upTo(4);
        }
        int sort = random.nextInt(6);
        return sort == 0 ? upTo(3) : sort == 1 ? 10 * upTo(9) : upTo(99);
    }

    private String text() {
        StringBuilder b = new StringBuilder();
        int corners = 1 + upTo(6);
        int goods = 1 + upTo(random.nextBoolean() ? 0 : 3);
        for (int k = 0; k < corners; k++) {
            b.append(line("corner", earning()));
        }
        for (int k = upTo(random.nextInt(4) == 0 ? 3 : 16); k > 0 && corners > 1; k--) {
            int a = random.nextInt(corners);
            int c = (a + 1 + random.nextInt(corners - 1)) % corners;
            b.append(line("street", a, c, within(1, random.nextBoolean() ? 5 : 20, 3)));
        }
        for (int k = 0; k < goods; k++) {
            b.append(line("goods", within(1, 9, 4), within(1, 99, 12), within(0, 99, 3)));
        }
        for (int k = upTo(5); k > 0; k--) {
            b.append(line("seller", random.nextInt(goods), random.nextInt(corners)));
        }
        for (int k = upTo(4); k > 0; k--) {
            b.append(line("watcher", random.nextInt(corners)));
        }
        for (int k = upTo(6); k > 0; k--) {
            b.append(line("cellar", random.nextInt(corners), within(0, 99, 4)));
        }
        if (random.nextBoolean()) {
            b.append(line("law", within(0, random.nextBoolean() ? 5 : 20, 4), upTo(30), 1 + upTo(8)));
        }
        return b.toString();
    }

    private String spoil(String text) {
        StringBuilder b = new StringBuilder(text);
        String[] scraps = {";", " ", "corner 1;", "street 0 1 1;", "goods 1 1 1;", "seller 0 0;",
            "watcher 0;", "cellar 0 0;", "law 0 0 1;", "a", "7", "99", "100", "0", "#", "\t",
            "\u00e9", "Z", "street 1 0 21;", "goods 10 1 1;", "seller 4 6;"};
        for (int k = 1 + random.nextInt(2); k > 0; k--) {
            int at = random.nextInt(b.length() + 1);
            switch (random.nextInt(4)) {
                case 0:
                    b.insert(at, scraps[random.nextInt(scraps.length)]);
                    break;
                case 1:
                    int behind = b.indexOf(";", at) + 1;
                    b.insert(behind, scraps[random.nextInt(scraps.length)]);
                    break;
                case 2:
                    b.delete(at, Math.min(b.length(), at + 1 + random.nextInt(3)));
                    break;
                default:
                    b.setLength(at);
                    break;
            }
        }
        return b.toString();
    }

    // ---- routes

    /** A walk along streets in row r, now and then with a false step. */
    private void layRoute(int r) {
        int n = 1 + random.nextInt(20);
        int lane = random.nextInt(3);
        same("row", x.row(r, lane, n), m.row(r, lane, n));
        int c = Math.max(0, m.corners() == 0 ? 0 : random.nextInt(m.corners()));
        for (int i = 0; i < n; i++) {
            int v = random.nextInt(60) == 0 ? aCorner() : c;
            same("set", x.set(r, i, v), m.set(r, i, v));
            for (int tries = 0; tries < 12 && m.corners() > 1; tries++) {
                int next = random.nextInt(m.corners());
                if (next != c && m.street(c, next) < Model.FAR) {
                    c = next;
                    break;
                }
            }
        }
    }

    // ---- calls

    private void call(int which) {
        if (which < 10) {
            callRows(which);
        } else if (which < 24) {
            callRaids(which);
        } else if (which < 37) {
            callRest(which);
        } else {
            callAsked(which);
        }
    }

    private void callRows(int which) {
        int r = about(8);
        int i = about(20);
        switch (which) {
            case 0:
                int lane = about(3);
                int n = random.nextInt(8) == 0 ? 38 + random.nextInt(4) : about(20);
                same("row", x.row(r, lane, n), m.row(r, lane, n));
                break;
            case 1:
                int v = random.nextBoolean() ? random.nextInt() : aCorner();
                same("set", x.set(r, i, v), m.set(r, i, v));
                break;
            case 2:
                int b = random.nextBoolean() ? r : about(8);
                int j = about(20);
                int many = about(9);
                same("copy", x.copy(r, i, b, j, many), m.copy(r, i, b, j, many));
                break;
            case 3:
                if (random.nextInt(3) == 0) {
                    same("drop", x.drop(r), m.drop(r));
                }
                break;
            case 4:
                if (random.nextInt(12) == 0) {
                    layPavement();
                } else if (random.nextInt(6) == 0) {
                    int few = about(9);
                    same("feed", x.feed(32, few), m.feed(32, few));
                }
                break;
            case 5:
                int what = about(9);
                same("count(" + what + ")", x.count(what), m.count(what));
                break;
            default:
                callPlaces(which);
                break;
        }
    }

    private void callPlaces(int which) {
        int c = aCorner();
        int s = aSeller();
        int w = aWatcher();
        int what = about(which == 7 ? 5 : 2);
        switch (which) {
            case 6:
                int b = aCorner();
                same("walk", x.walk(c, b, what), m.walk(c, b, what));
                break;
            case 7:
                same("seller", x.seller(s, what), m.seller(s, what));
                break;
            case 8:
                same("goes", x.goes(s, c), m.goes(s, c));
                break;
            default:
                same("watch", x.watch(w, c), m.watch(w, c));
                break;
        }
    }

    private void callRaids(int which) {
        int r = about(8);
        int n = about(11);
        int i = random.nextBoolean() ? 0 : about(12);
        int s = aSeller();
        switch (which) {
            case 10:
                int j = about(12);
                same("two", x.two(r, i, j, n), m.two(r, i, j, n));
                break;
            case 11:
            case 12:
            case 13:
                int own = random.nextInt(8);
                layRoute(own);
                int far = 1 + random.nextInt(10);
                if (random.nextInt(5) == 0) {
                    int from = about(6);
                    same("two", x.two(own, i, from, far), m.two(own, i, from, far));
                } else {
                    same("raid", x.raid(own, i, far), m.raid(own, i, far));
                }
                break;
            case 14:
                same("raid", x.raid(r, i, n), m.raid(r, i, n));
                break;
            case 15:
            case 16:
                int what = about(5);
                same("after(" + s + "," + what + ")", x.after(s, what), m.after(s, what));
                break;
            case 17:
                same("after", x.after(-1, 4), m.after(-1, 4));
                break;
            case 18:
                int w = aWatcher();
                same("nothing", x.nothing(w), m.nothing(w));
                break;
            case 19:
            case 20:
            case 21:
                same("keep", x.keep(), m.keep());
                break;
            default:
                int c = aCorner();
                int half = about(2);
                same("feared", x.feared(c, half), m.feared(c, half));
                break;
        }
    }

    private void callRest(int which) {
        int c = aCorner();
        int s = aSeller();
        switch (which) {
            case 24:
                same("score", x.score(s, c), m.score(s, c));
                break;
            case 25:
                same("may", x.may(s), m.may(s));
                break;
            case 26:
                int g = about((int) m.count(3));
                same("newcomer", x.newcomer(g), m.newcomer(g));
                break;
            case 27:
                same("rest", x.rest(), m.rest());
                break;
            case 28:
                if (random.nextInt(3) == 0) {
                    same("settle", x.settle(), m.settle());
                }
                break;
            case 29:
                int w = aWatcher();
                same("saved", x.saved(w, s), m.saved(w, s));
                break;
            case 30:
                int by = aWatcher();
                int half = about(2);
                int pay = random.nextInt(10) == 0 ? about(10000) : 1 + random.nextInt(600);
                same("pays", x.pays(by, pay, s, half), m.pays(by, pay, s, half));
                break;
            case 31:
                int k = random.nextBoolean() ? -1 : aSeller();
                same("stored(" + k + ")", x.stored(k), m.stored(k));
                break;
            case 32:
                int b = aCorner();
                same("escapes", x.escapes(c, b), m.escapes(c, b));
                break;
            default:
                callRounds(which);
                break;
        }
    }

    private void callRounds(int which) {
        int fine = about(100);
        int half = about(2);
        int c = aCorner();
        if (which == 33) {
            same("value", x.value(fine, half), m.value(fine, half));
        } else if (which == 34) {
            same("odds", x.odds(fine, c, half), m.odds(fine, c, half));
        } else {
            int a = aSeller();
            int b = aSeller();
            int sum = random.nextInt(4) == 0 ? about(10000) : 1 + random.nextInt(9);
            same("owe", x.owe(a, b, sum), m.owe(a, b, sum));
        }
    }

    private void callAsked(int which) {
        int s = aSeller();
        int k = about(2);
        switch (which) {
            case 37:
                int b = aSeller();
                same("owed", x.owed(s, b), m.owed(s, b));
                break;
            case 38:
                if (random.nextInt(6) == 0) {
                    same("passed", x.passed(), m.passed());
                }
                break;
            case 39:
                if (random.nextInt(3) == 0) {
                    same("image", x.image(k), m.image(k));
                } else if (random.nextInt(3) == 0) {
                    same("restore", x.restore(k), m.restore(k));
                }
                break;
            case 40:
                same("kind", x.kind(s), m.kind(s));
                break;
            case 41:
                int kind = about(5);
                same("as", x.as(s, kind), m.as(s, kind));
                break;
            case 42:
            case 43:
                same("ask", x.ask(s, k), m.ask(s, k));
                for (int i = -1; i < 8; i++) {
                    same("trace(" + i + ")", x.trace(i), m.trace(i));
                }
                break;
            default:
                callRestsOfFew();
                break;
        }
    }

    // The model looks at all 7 to the power of sellers: only now and then with many.
    private void callRestsOfFew() {
        if (random.nextInt(m.sellers() > 3 ? 40 : 4) == 0) {
            int i = random.nextBoolean() ? -1 : about(20);
            same("rests(" + i + ")", x.rests(i), m.rests(i));
        }
    }
}
