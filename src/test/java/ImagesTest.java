/** Promises 34 and 35: images keep all of a pavement, and bring it back. */
public final class ImagesTest {
    private static final String TEXT = "corner 5;corner 6;street 0 1 3;goods 2 9 3;seller 0 1;seller 0 0;"
        + "watcher 0;cellar 0 1;cellar 1 1;law 3 4 5;";

    public static void main(String[] args) {
        refusals();
        allComesBack();
        anImageIsNotChangedLater();
        aRaidComesBackKeptOrNot();
        whatIsNotOfAnImageStays();
        Checks.end();
    }

    private static void refusals() {
        StringsSheet x = new StringsSheet();
        Checks.due("image(-1)", x.image(-1), Checks.BAD);
        Checks.due("image(2)", x.image(2), Checks.BAD);
        Checks.due("image(0), no pavement", x.image(0), Checks.STATE);
        Checks.due("restore(-1)", x.restore(-1), Checks.BAD);
        Checks.due("restore(2)", x.restore(2), Checks.BAD);
        Checks.due("restore(0), none kept", x.restore(0), Checks.STATE);
        Checks.feed(x, TEXT);
        x.pavement();
        Checks.due("image(1)", x.image(1), 1);
        Checks.due("restore(0), none kept", x.restore(0), Checks.STATE);
        Checks.due("restore(1)", x.restore(1), 1);
    }

    private static void allComesBack() {
        StringsSheet x = Checks.on(TEXT);
        x.goes(0, 0);
        x.watch(0, 1);
        Checks.raid(x, 0, 1);
        x.keep();
        x.owe(0, 1, 7);
        Checks.due("image(0)", x.image(0), 1);
        long[] told = tellOf(x);
        Checks.feed(x, "corner 99;corner 98;corner 97;goods 1 1 1;goods 1 1 1;watcher 2;");
        x.pavement();
        Checks.due("another pavement", x.count(4), 0);
        Checks.due("restore(0)", x.restore(0), 1);
        long[] back = tellOf(x);
        for (int k = 0; k < told.length; k++) {
            Checks.due("what is told, " + k, back[k], told[k]);
        }
        x.goes(0, 1);
        x.watch(0, 0);
        x.owe(1, 0, 3);
        x.passed();
        Checks.raid(x, 1);
        x.keep();
        Checks.due("restore(0) again", x.restore(0), 1);
        back = tellOf(x);
        for (int k = 0; k < told.length; k++) {
            Checks.due("what is told again, " + k, back[k], told[k]);
        }
    }

    private static long[] tellOf(StringsSheet x) {
        return new long[] {x.count(1), x.count(2), x.count(3), x.count(4), x.count(5), x.count(6), x.count(7),
            x.walk(0, 1, 0), x.walk(0, 1, 1), x.seller(0, 0), x.seller(0, 1), x.seller(1, 1), x.seller(0, 2),
            x.seller(0, 3), x.seller(0, 4), x.after(0, 0), x.after(0, 1), x.after(0, 2), x.after(1, 3),
            x.after(-1, 4), x.nothing(0), x.feared(0, 0), x.feared(1, 0), x.score(0, 0), x.score(1, 1), x.may(0),
            x.newcomer(0), x.rest(), x.rests(-1), x.saved(0, 0), x.saved(0, 1), x.pays(0, 3, 0, 0), x.stored(-1),
            x.stored(0), x.stored(1), x.escapes(0, 1), x.value(2, 0), x.odds(2, 1, 0), x.owed(0, 1), x.owed(1, 0),
            x.kind(0), x.kind(1), x.ask(0, 0), x.ask(1, 1), x.keep()};
    }

    private static void anImageIsNotChangedLater() {
        StringsSheet x = Checks.on(TEXT);
        x.image(0);
        x.goes(0, 0);
        x.owe(0, 1, 5);
        x.image(1);
        x.goes(1, 1);
        x.restore(0);
        Checks.due("the first image", x.seller(0, 1), 1);
        Checks.due("the first image", x.owed(0, 1), 0);
        x.restore(1);
        Checks.due("the second image", x.seller(0, 1), 0);
        Checks.due("the second image", x.seller(1, 1), 0);
        Checks.due("the second image", x.owed(0, 1), 5);
        x.goes(0, 1);
        x.restore(1);
        Checks.due("the second image again", x.seller(0, 1), 0);
        x.goes(0, 1);
        x.image(1);
        x.goes(0, 0);
        x.restore(1);
        Checks.due("a newer one in its place", x.seller(0, 1), 1);
    }

    private static void aRaidComesBackKeptOrNot() {
        StringsSheet x = Checks.on(TEXT);
        x.image(0);
        Checks.raid(x, 0);
        x.image(1);
        Checks.due("kept", x.keep(), 1);
        x.restore(1);
        Checks.due("no day", x.count(7), 0);
        Checks.due("not kept then", x.keep(), 1);
        x.image(1);
        Checks.raid(x, 1);
        x.restore(1);
        Checks.due("kept already then", x.keep(), Checks.STATE);
        x.restore(0);
        Checks.due("no raid then", x.after(-1, 4), Checks.STATE);
        Checks.due("no raid then", x.keep(), Checks.STATE);
        x.two(7, 0, 0, 1);
        x.image(0);
        Checks.raid(x, 1);
        x.restore(0);
        Checks.due("of two then", x.keep(), Checks.STATE);
    }

    private static void whatIsNotOfAnImageStays() {
        StringsSheet x = Checks.on(TEXT);
        x.row(0, 0, 2);
        x.image(0);
        x.row(1, 0, 3);
        x.drop(0);
        x.drop(0);
        Checks.feed(x, "x");
        x.pavement();
        x.feed(32, 1);
        x.ask(0, 0);
        x.restore(0);
        Checks.due("rows", x.count(0), 1);
        Checks.due("the tape", x.count(8), 1);
        Checks.due("fault()", x.fault(), 1);
        Checks.due("status()", x.status(), 1);
        Checks.due("trace(0)", x.trace(0), 11);
    }
}
