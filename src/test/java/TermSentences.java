import java.util.function.Consumer;
import java.util.function.ToLongFunction;

/** The sentences ahead of part 1 of the terms: numbers, fractions, refusals and what these leave. */
final class TermSentences {
    private static final int LEAST = Integer.MIN_VALUE;
    private static final int MOST = Integer.MAX_VALUE;

    private static final String TOWN = "corner 5;corner 6;corner 7;street 0 1 3;street 1 2 4;goods 2 9 3;goods 1 8 1;"
        + "seller 0 0;seller 0 1;seller 1 2;watcher 0;watcher 2;cellar 1 3;cellar 0 1;cellar 2 9;law 2 5 4;";

    private TermSentences() {
    }

    static void go() {
        numbersGoFrom0();
        cutTowards0();
        fractions();
        setsAreBits();
        theFirstThatFits();
        findingsInTheirTime();
        refusedByANewOne();
        refusedInATown();
        refusedRaids();
        refusedWhenFull();
    }

    private static void numbersGoFrom0() {
        Sentence.says(0, "Numbers go from 0 on.");
        StringsSheet x = Checks.on("corner 5;goods 2 9 3;seller 0 0;watcher 0;cellar 0 0;");
        Sentence.due("corner 0", x.walk(0, 0, 0), 0);
        Sentence.due("corner 1", x.walk(1, 1, 0), Checks.BAD);
        Sentence.due("seller 0", x.seller(0, 3), 9);
        Sentence.due("seller 1", x.seller(1, 3), Checks.BAD);
        Sentence.due("watcher 0", x.nothing(0), 13);
        Sentence.due("watcher 1", x.nothing(1), Checks.BAD);
        Sentence.due("cellar 0", x.stored(0), 0);
        Sentence.due("goods 0", x.newcomer(0), 1);
        Sentence.due("goods 1", x.newcomer(1), Checks.BAD);
    }

    private static void cutTowards0() {
        Sentence.says(0, "All that is divided is cut towards 0, but fractions, told as two numbers in lowest terms, "
            + "the lower one above 0 (0 is 0 by 1).");
        for (int risk : new int[] {0, 1, 9, 10, 11, 19, 20, 99}) {
            StringsSheet x = Checks.on("corner 5;goods 1 1 0;seller 0 0;cellar 0 " + risk + ";");
            Sentence.due("RISK " + risk + " by 10", x.stored(-1), risk / 10);
        }
        // FEARED is 1 by 3 where no raid came on one day: 10 times 1 by 3 is 3, so the score is -3, not -4.
        StringsSheet x = Checks.on("corner 0;corner 0;goods 1 1 0;goods 1 1 1;seller 0 0;seller 1 0;");
        Checks.raid(x, 1);
        x.keep();
        Sentence.due("10 by 3", x.score(0, 0), -3);
        Sentence.due("20 by 3", x.score(0, 1), -6);
        Sentence.due("20 by 3", x.score(1, 0), -6);
        Sentence.due("40 by 3", x.score(1, 1), -13);
    }

    private static void fraction(String what, long above, long below, long dueAbove, long dueBelow) {
        Sentence.due(what + ", above", above, dueAbove);
        Sentence.due(what + ", below", below, dueBelow);
    }

    private static void fractions() {
        StringsSheet x = Checks.on("corner 4;corner 10;corner 2;corner 0;street 0 1 5;goods 1 20 10;seller 0 1;watcher 0;law 0 0 9;");
        fraction("feared", x.feared(0, 0), x.feared(0, 1), 1, 2);
        Checks.raid(x, 0, 1);
        x.keep();
        x.raid(7, 0, 1);
        x.keep();
        fraction("feared, 2 by 4", x.feared(1, 0), x.feared(1, 1), 1, 2);
        fraction("feared, 3 by 4", x.feared(0, 0), x.feared(0, 1), 3, 4);
        fraction("value", x.value(2, 0), x.value(2, 1), 2, 1);
        fraction("odds, 2 by 6", x.odds(2, 0, 0), x.odds(2, 0, 1), 1, 3);
        fraction("odds of 0", x.odds(2, 2, 0), x.odds(2, 2, 1), 0, 1);
        fraction("odds of 0", x.odds(2, 3, 0), x.odds(2, 3, 1), 0, 1);
        fraction("pays", x.pays(0, 7, 0, 0), x.pays(0, 7, 0, 1), 7, 1);
        StringsSheet zero = Checks.on("corner 3;corner 3;goods 1 1 1;seller 0 0;watcher 0;");
        fraction("value of 0", zero.value(3, 0), zero.value(3, 1), 0, 1);
        fraction("pays of 0", zero.pays(0, 1, 0, 0), zero.pays(0, 1, 0, 1), 0, 1);
        StringsSheet below = Checks.on("corner 0;corner 0;goods 1 1 1;");
        fraction("value below 0", below.value(3, 0), below.value(3, 1), -3, 2);
        fraction("value below 0", below.value(4, 0), below.value(4, 1), -2, 1);
        StringsSheet one = Checks.on("corner 9;goods 1 1 1;");
        fraction("odds of 1", one.odds(99, 0, 0), one.odds(99, 0, 1), 1, 1);
    }

    private static void setsAreBits() {
        Sentence.says(0, "Sets are bits.");
        StringsSheet x = Checks.on("corner 9;".repeat(7) + "goods 1 1 1;seller 0 0;seller 0 6;seller 0 0;seller 0 0;seller 0 0;");
        Sentence.due("none", Checks.raid(x, 3), 0);
        Sentence.due("seller 1", Checks.raid(x, 6), 2);
        Sentence.due("sellers 0, 2, 3, 4", Checks.raid(x, 0), 1 + 4 + 8 + 16);
        Sentence.due("all corners", x.may(0), 127);
        Sentence.due("all corners", x.newcomer(0), 127);
    }

    private static void theFirstThatFits() {
        Sentence.says(0, "Refusals are answers, the first of these that fits, but as told: BAD (a number is not as told; "
            + "there is no such thing), STATE (as told), FULL (as told), then FINDINGS, of several the first in time: "
            + "NOT less 10 less 1 NULL (a ROW that is missing), 2 PLACE (no such place of a ROW), 3 KIND (a SELLER that "
            + "is not that), 4 SIZE (fewer than none), 5 STORE (ROWS of two LANES); BAD, STATE, FULL are NOT less 1, 2, 3.");
        StringsSheet none = new StringsSheet();
        Sentence.due("BAD is told by its number", none.row(8, 0, 0), -9000000000000000001L);
        Sentence.due("STATE is told by its number", none.rest(), -9000000000000000002L);
        Sentence.due("BAD ahead of STATE", none.rests(-2), Checks.BAD);
        Sentence.due("BAD ahead of STATE", none.stored(-2), Checks.BAD);
        Sentence.due("BAD ahead of STATE", none.value(0, 0), Checks.BAD);
        Sentence.due("BAD ahead of STATE", none.value(1, 2), Checks.BAD);
        Sentence.due("BAD ahead of STATE", none.image(2), Checks.BAD);
        Sentence.due("BAD ahead of STATE", none.restore(-1), Checks.BAD);
        Sentence.due("BAD ahead of STATE", none.after(-1, 5), Checks.BAD);
        Sentence.due("BAD ahead of STATE", none.raid(0, 0, 11), Checks.BAD);
        Sentence.due("BAD ahead of STATE", none.two(-1, 0, 0, 1), Checks.BAD);
        Sentence.due("STATE ahead of NULL", none.raid(0, 0, 1), Checks.STATE);
        Sentence.due("STATE ahead of NULL", none.two(0, 0, 0, 1), Checks.STATE);
        StringsSheet full = Checks.on(RowSentences.FIVE);
        full.owe(0, 1, 9999);
        Sentence.due("FULL is told by its number", full.owe(0, 1, 1), -9000000000000000003L);
        Sentence.due("BAD ahead of FULL", full.owe(0, 1, 10000), Checks.BAD);
        for (int day = 0; day < 12; day++) {
            Checks.raid(full, 0);
            full.keep();
        }
        Sentence.due("STATE ahead of FULL", full.keep(), Checks.STATE);
        full.two(7, 0, 0, 1);
        Sentence.due("STATE ahead of FULL", full.keep(), Checks.STATE);
        full.raid(7, 0, 1);
        Sentence.due("FULL", full.keep(), Checks.FULL);
    }

    private static void findingsInTheirTime() {
        StringsSheet x = Checks.on(RowSentences.FIVE);
        x.row(0, 0, 2);
        x.row(1, 1, 2);
        Sentence.due("NULL", x.set(2, 0, 0), -9000000000000000011L);
        Sentence.due("PLACE", x.set(0, 2, 0), -9000000000000000012L);
        Sentence.due("KIND", x.as(0, 3), -9000000000000000013L);
        Sentence.due("SIZE", x.row(0, 0, -1), -9000000000000000014L);
        Sentence.due("STORE", x.copy(0, 0, 1, 0, 1), -9000000000000000015L);
        Sentence.due("NULL ahead of PLACE", x.set(2, 5, 0), Checks.NULL);
        Sentence.due("NULL ahead of STORE", x.copy(1, 0, 2, 0, 1), Checks.NULL);
        Sentence.due("STORE ahead of PLACE", x.copy(0, 3, 1, 0, 1), Checks.STORE);
        Sentence.due("NULL ahead of PLACE", x.raid(2, -1, 1), Checks.NULL);
        x.set(0, 0, 9);
        Sentence.due("PLACE ahead of a wrong item, as told", x.raid(0, 0, 3), Checks.PLACE);
        Sentence.due("a wrong item", x.raid(0, 0, 1), Checks.BAD);
    }

    // ---- what is refused

    /** Two objects of the same calls, one of which is refused one more, must tell the same. */
    private static void refused(Consumer<StringsSheet> made, String call, ToLongFunction<StringsSheet> act, long want) {
        Sentence.says(0, "What is refused, or found, changes nothing but status().");
        StringsSheet one = new StringsSheet();
        StringsSheet other = new StringsSheet();
        made.accept(one);
        made.accept(other);
        Sentence.due(call, act.applyAsLong(one), want);
        Probe.same("behind " + call, Probe.wholly(one), Probe.wholly(other));
    }

    private static void refusedByANewOne() {
        Consumer<StringsSheet> made = x -> { };
        refused(made, "row(0, 0, 41)", x -> x.row(0, 0, 41), Checks.BAD);
        refused(made, "row(0, 0, -1)", x -> x.row(0, 0, -1), Checks.SIZE);
        refused(made, "set(0, 0, 1)", x -> x.set(0, 0, 1), Checks.NULL);
        refused(made, "copy(0, 0, 1, 0, 1)", x -> x.copy(0, 0, 1, 0, 1), Checks.NULL);
        refused(made, "drop(0)", x -> x.drop(0), Checks.NULL);
        refused(made, "feed(97, 9)", x -> x.feed(97, 9), Checks.BAD);
        refused(made, "pavement()", StringsSheet::pavement, Checks.NOT - 100);
        refused(made, "goes(0, 0)", x -> x.goes(0, 0), Checks.BAD);
        refused(made, "watch(0, 0)", x -> x.watch(0, 0), Checks.BAD);
        refused(made, "raid(0, 0, 1)", x -> x.raid(0, 0, 1), Checks.STATE);
        refused(made, "two(0, 0, 0, 1)", x -> x.two(0, 0, 0, 1), Checks.STATE);
        refused(made, "keep()", StringsSheet::keep, Checks.STATE);
        refused(made, "settle()", StringsSheet::settle, Checks.STATE);
        refused(made, "owe(0, 1, 1)", x -> x.owe(0, 1, 1), Checks.BAD);
        refused(made, "passed()", StringsSheet::passed, Checks.STATE);
        refused(made, "image(0)", x -> x.image(0), Checks.STATE);
        refused(made, "restore(0)", x -> x.restore(0), Checks.STATE);
        refused(made, "as(0, 0)", x -> x.as(0, 0), Checks.BAD);
        refused(made, "ask(0, 0)", x -> x.ask(0, 0), Checks.BAD);
    }

    private static void town(StringsSheet x) {
        Checks.feed(x, TOWN);
        x.pavement();
        Checks.raid(x, 0, 1, 2);
        x.keep();
        x.owe(0, 1, 4);
        x.owe(1, 0, 6);
        x.image(0);
        x.goes(0, 2);
        Checks.raid(x, 2, 1);
        Checks.items(x, 0, 2, 1, 0);
        x.row(1, 1, 3);
        x.set(1, 2, 2);
        x.ask(2, 0);
        Checks.feed(x, "corner 1;goods 1 1 1;");
    }

    private static void refusedInATown() {
        Consumer<StringsSheet> made = TermSentences::town;
        refused(made, "row(0, 3, 2)", x -> x.row(0, 3, 2), Checks.BAD);
        refused(made, "row(0, 2, -1)", x -> x.row(0, 2, -1), Checks.SIZE);
        refused(made, "set(0, 3, 1)", x -> x.set(0, 3, 1), Checks.PLACE);
        refused(made, "set(2, 0, 1)", x -> x.set(2, 0, 1), Checks.NULL);
        refused(made, "copy(0, 0, 0, 2, 2)", x -> x.copy(0, 0, 0, 2, 2), Checks.PLACE);
        refused(made, "copy(0, 0, 1, 0, 1)", x -> x.copy(0, 0, 1, 0, 1), Checks.STORE);
        refused(made, "copy(0, 0, 2, 0, 1)", x -> x.copy(0, 0, 2, 0, 1), Checks.NULL);
        refused(made, "drop(2)", x -> x.drop(2), Checks.NULL);
        refused(made, "drop(8)", x -> x.drop(8), Checks.BAD);
        refused(made, "feed(97, 0)", x -> x.feed(97, 0), Checks.BAD);
        refused(made, "goes(0, 3)", x -> x.goes(0, 3), Checks.BAD);
        refused(made, "goes(3, 0)", x -> x.goes(3, 0), Checks.BAD);
        refused(made, "watch(0, 3)", x -> x.watch(0, 3), Checks.BAD);
        refused(made, "watch(2, 0)", x -> x.watch(2, 0), Checks.BAD);
        refused(made, "rests(-2)", x -> x.rests(-2), Checks.BAD);
        refused(made, "stored(-2)", x -> x.stored(-2), Checks.BAD);
        refused(made, "nothing(2)", x -> x.nothing(2), Checks.BAD);
        refused(made, "owe(0, 0, 1)", x -> x.owe(0, 0, 1), Checks.BAD);
        refused(made, "owe(0, 1, 0)", x -> x.owe(0, 1, 0), Checks.BAD);
        refused(made, "owe(0, 1, 9996)", x -> x.owe(0, 1, 9996), Checks.FULL);
        refused(made, "image(2)", x -> x.image(2), Checks.BAD);
        refused(made, "restore(-1)", x -> x.restore(-1), Checks.BAD);
        refused(made, "restore(1)", x -> x.restore(1), Checks.STATE);
        refused(made, "as(2, 1)", x -> x.as(2, 1), Checks.KIND);
        refused(made, "as(0, 5)", x -> x.as(0, 5), Checks.BAD);
        refused(made, "ask(3, 0)", x -> x.ask(3, 0), Checks.BAD);
        refused(made, "ask(0, 2)", x -> x.ask(0, 2), Checks.BAD);
        refused(made, "pays(0, 0, 0, 0)", x -> x.pays(0, 0, 0, 0), Checks.BAD);
        refused(made, "count(9)", x -> x.count(9), Checks.BAD);
    }

    private static void refusedRaids() {
        Consumer<StringsSheet> made = TermSentences::town;
        refused(made, "raid(8, 0, 1)", x -> x.raid(8, 0, 1), Checks.BAD);
        refused(made, "raid(0, 0, 0)", x -> x.raid(0, 0, 0), Checks.BAD);
        refused(made, "raid(2, 0, 1)", x -> x.raid(2, 0, 1), Checks.NULL);
        refused(made, "raid(0, 1, 3)", x -> x.raid(0, 1, 3), Checks.PLACE);
        refused(made, "raid(1, 1, 2), no street", x -> x.raid(1, 1, 2), Checks.BAD);
        refused(made, "two(0, 0, 2, 2)", x -> x.two(0, 0, 2, 2), Checks.PLACE);
        refused(made, "two(1, 1, 0, 2), no street of the first", x -> x.two(1, 1, 0, 2), Checks.BAD);
        refused(x -> {
            town(x);
            x.keep();
        }, "keep() again", StringsSheet::keep, Checks.STATE);
        refused(x -> {
            town(x);
            x.two(0, 0, 1, 1);
        }, "keep() of two", StringsSheet::keep, Checks.STATE);
        refused(x -> {
            town(x);
            x.pavement();
            Checks.feed(x, "corner 1;goods 1 1 1;seller 0");
        }, "pavement() of a text without an end", x -> {
            long answer = x.pavement();
            Checks.feed(x, "corner 1;goods 1 1 1;seller 0");
            return answer;
        }, Checks.NOT - 129);
    }

    private static void refusedWhenFull() {
        Consumer<StringsSheet> made = x -> {
            Checks.feed(x, TOWN);
            x.pavement();
            for (int day = 0; day < 13; day++) {
                Checks.raid(x, 1);
                x.keep();
            }
            x.owe(0, 1, 9999);
            Checks.feed(x, TOWN + "\n".repeat(600 - TOWN.length() - 1) + "z");
        };
        refused(made, "keep()", StringsSheet::keep, Checks.FULL);
        refused(made, "owe(0, 1, 1)", x -> x.owe(0, 1, 1), Checks.FULL);
        refused(made, "feed(97, 1)", x -> x.feed(97, 1), Checks.FULL);
        refused(made, "feed(.., 8)", x -> x.feed(LEAST, 8), Checks.FULL);
        refused(made, "feed(.., most)", x -> x.feed(MOST, MOST), Checks.BAD);
    }
}
