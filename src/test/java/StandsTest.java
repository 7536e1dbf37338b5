/** Promises 19 to 24: scores, the law, where all stand at rest. */
public final class StandsTest {
    public static void main(String[] args) {
        scores();
        theLaw();
        atRestAndSettled();
        manyAtOneCorner();
        onesOwnCornerMayBeUnlawful();
        restsAreAsTheyAreFoundByMoving();
        refusals();
        Checks.end();
    }

    private static void scores() {
        StringsSheet x = Checks.on("corner 10;corner 7;corner 0;street 0 1 1;goods 1 8 3;goods 1 1 0;"
            + "seller 0 0;seller 0 0;seller 1 0;seller 0 1;");
        // FEARED is 1 by 2: 110 by 2 of goods 0, 10 by 2 of goods 1.
        Checks.due("two of the goods", x.score(0, 0), 300 - 55);
        Checks.due("another's goods", x.score(2, 0), 600 - 5);
        Checks.due("it would be the second one", x.score(0, 1), 210 - 55);
        Checks.due("it would be the third one", x.score(3, 0), 200 - 55);
        Checks.due("alone where it is", x.score(3, 1), 420 - 55);
        Checks.due("below 0", x.score(0, 2), -55);
        Checks.raid(x, 0);
        x.keep();
        // 110 times 2 by 3 is 73 and a third, cut as one.
        Checks.due("cut", x.score(0, 0), 300 - 73);
        Checks.due("cut", x.score(3, 1), 420 - 36);
        Checks.due("cut below 0", x.score(3, 2), -36);
        Checks.due("no such seller", x.score(4, 0), Checks.BAD);
        Checks.due("no such seller", x.score(-1, 0), Checks.BAD);
        Checks.due("no such corner", x.score(0, 3), Checks.BAD);
        Checks.due("no such corner", x.score(0, -1), Checks.BAD);
    }

    private static void theLaw() {
        String head = "corner 1;corner 1;corner 1;corner 1;street 0 1 3;street 1 2 4;goods 1 1 1;goods 1 1 1;goods 1 1 1;"
            + "seller 0 0;seller 0 2;seller 1 0;";
        StringsSheet x = Checks.on(head + "law 4 0 1;");
        Checks.due("4 from 2 is not nearer than 4", x.may(0), 1 + 2 + 8);
        Checks.due("3 from 0 is nearer than 4", x.may(1), 4 + 8);
        Checks.due("no other of its goods", x.may(2), 15);
        Checks.due("a new one of goods 0", x.newcomer(0), 8);
        Checks.due("a new one of goods 1", x.newcomer(1), 4 + 8);
        Checks.due("a new one of goods 2", x.newcomer(2), 15);
        StringsSheet one = Checks.on(head + "law 1 0 1;");
        Checks.due("1: not at the same corner", one.may(0), 1 + 2 + 8);
        Checks.due("1: not at the same corner", one.newcomer(0), 2 + 8);
        StringsSheet any = Checks.on(head + "law 0 0 1;");
        Checks.due("0: any", any.may(0), 15);
        Checks.due("0: any", any.newcomer(0), 15);
        StringsSheet far = Checks.on(head + "law 20 0 1;");
        Checks.due("where there is no way it is far", far.newcomer(0), 8);
        Checks.due("no such seller", x.may(3), Checks.BAD);
        Checks.due("no such seller", x.may(-1), Checks.BAD);
        Checks.due("no such goods", x.newcomer(3), Checks.BAD);
        Checks.due("no such goods", x.newcomer(-1), Checks.BAD);
    }

    private static void atRestAndSettled() {
        StringsSheet x = Checks.on("corner 40;corner 40;corner 40;goods 1 1 1;goods 1 1 1;"
            + "seller 0 2;seller 0 2;seller 0 2;seller 1 2;");
        Checks.due("three at one corner", x.rest(), 0);
        Checks.due("one round", x.settle(), 1);
        int[] stand = {0, 1, 2, 2};
        for (int s = 0; s < 4; s++) {
            Checks.due("the least of several, and no move for as much", x.seller(s, 1), stand[s]);
        }
        Checks.due("at rest", x.rest(), 1);
        Checks.due("no round", x.settle(), 0);
        Checks.due("rests: 3 times 2 for goods 0, any of 3 for goods 1", x.rests(-1), 18);
        Checks.due("2 + 7 * 1 + 49 * 0", x.rests(0), 2 + 7);
        Checks.due("1 + 7 * 2 + 49 * 0", x.rests(1), 1 + 14);
        Checks.due("with seller 3 at 1", x.rests(6), 2 + 7 + 343);
        Checks.due("the last one", x.rests(17), 1 * 7 + 2 * 49 + 2 * 343);
        Checks.due("not so many", x.rests(18), Checks.NONE);
        Checks.due("not so many", x.rests(Integer.MAX_VALUE), Checks.NONE);
        Checks.due("nobody moved by that", x.seller(1, 1), 1);
        // A move of the second seller lets the first one move in the next round.
        StringsSheet y = Checks.on("corner 50;corner 10;corner 60;street 0 2 2;goods 1 1 0;"
            + "seller 0 1;seller 0 0;law 3 0 1;");
        Checks.due("0 may not leave 1 till 1 has left 0", y.may(0), 2);
        Checks.due("settled", y.settle(), 1);
        Checks.due("the first one", y.seller(0, 1), 1);
        Checks.due("the second one", y.seller(1, 1), 2);
    }

    private static void manyAtOneCorner() {
        String sellers = "goods 1 1 1;" + "seller 0 1;".repeat(5);
        StringsSheet all = Checks.on("corner 99;corner 19;" + sellers);
        Checks.due("a fifth of 99 is more than 19", all.rests(-1), 1);
        Checks.due("all at 0", all.rests(0), 0);
        StringsSheet four = Checks.on("corner 99;corner 22;" + sellers);
        Checks.due("a fifth of 99 is less than 22", four.rests(-1), 5);
        int weight = 1;
        for (int k = 0; k < 5; k++) {
            Checks.due("one of them at 1", four.rests(k), weight);
            weight *= 7;
        }
        Checks.due("they find one of these", four.settle(), 1);
        Checks.due("the last one stays", four.seller(4, 1), 1);
        Checks.due("the fourth one goes", four.seller(3, 1), 0);
    }

    private static void onesOwnCornerMayBeUnlawful() {
        StringsSheet x = Checks.on("corner 50;corner 60;street 0 1 1;goods 1 1 0;seller 0 0;seller 0 0;law 5 0 1;");
        Checks.due("neither may stand anywhere", x.may(0), 0);
        Checks.due("so none does better", x.rest(), 1);
        Checks.due("and none moves", x.settle(), 0);
        Checks.due("but that is none of the rests", x.rests(-1), 0);
        Checks.due("none", x.rests(0), Checks.NONE);
    }

    /** All ways to stand, tried by goes(), rest() and may(). */
    private static void restsAreAsTheyAreFoundByMoving() {
        StringsSheet x = Checks.on("corner 33;corner 50;corner 21;corner 44;street 0 1 2;street 1 2 3;street 2 3 4;"
            + "goods 1 9 9;goods 1 30 3;seller 0 0;seller 1 0;seller 0 0;law 3 0 1;");
        Checks.raid(x, 1);
        x.keep();
        int seen = 0;
        for (int way = 0; way < 64; way++) {
            int[] where = {way % 4, way / 4 % 4, way / 16};
            boolean lawful = true;
            for (int s = 0; s < 3; s++) {
                x.goes(s, where[s]);
            }
            for (int s = 0; s < 3; s++) {
                lawful &= (x.may(s) >> where[s] & 1) == 1;
            }
            if (lawful && x.rest() == 1) {
                Checks.due("rests(" + seen + ")", x.rests(seen), where[0] + 7 * where[1] + 49 * where[2]);
                seen++;
            }
        }
        Checks.due("rests(-1)", x.rests(-1), seen);
        Checks.due("there are some", seen > 0 ? 1 : 0, 1);
    }

    private static void refusals() {
        StringsSheet none = new StringsSheet();
        Checks.due("rest()", none.rest(), Checks.STATE);
        Checks.due("settle()", none.settle(), Checks.STATE);
        Checks.due("rests(-1)", none.rests(-1), Checks.STATE);
        Checks.due("rests(-2)", none.rests(-2), Checks.BAD);
        Checks.due("score(0, 0)", none.score(0, 0), Checks.BAD);
        Checks.due("may(0)", none.may(0), Checks.BAD);
        Checks.due("newcomer(0)", none.newcomer(0), Checks.BAD);
        StringsSheet empty = Checks.on("corner 1;goods 1 1 1;");
        Checks.due("nobody is at rest", empty.rest(), 1);
        Checks.due("nobody moves", empty.settle(), 0);
        Checks.due("one way for nobody", empty.rests(-1), 1);
        Checks.due("its number", empty.rests(0), 0);
        Checks.due("not two", empty.rests(1), Checks.NONE);
        Checks.due("i", empty.rests(-2), Checks.BAD);
    }
}
