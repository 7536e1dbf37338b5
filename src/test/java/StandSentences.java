/** Promises 19 to 24, sentence by sentence: scores, the law, where all stand at rest. */
final class StandSentences {
    private static final int LEAST = Integer.MIN_VALUE;
    private static final int MOST = Integer.MAX_VALUE;

    // It takes three rounds here, and two in the next one.
    private static final String SLOW = "corner 49;corner 76;corner 78;corner 56;corner 73;corner 66;corner 91;street 0 1 7;"
        + "street 2 0 3;street 2 4 8;street 3 6 12;street 0 1 5;street 3 4 10;street 2 3 5;street 3 5 12;street 1 3 2;"
        + "street 5 3 5;street 2 6 18;goods 1 1 0;seller 0 0;seller 0 6;seller 0 6;seller 0 0;seller 0 3;law 6 0 1;";
    private static final String SLOWER = "corner 99;corner 36;corner 71;corner 98;corner 37;corner 69;corner 44;street 2 1 7;"
        + "street 1 3 9;street 6 4 20;goods 1 1 0;seller 0 2;seller 0 5;seller 0 1;seller 0 5;seller 0 6;law 16 0 1;";
    private static final String BLOCKED = "corner 33;corner 50;corner 21;corner 44;street 0 1 2;street 1 2 3;street 2 3 4;"
        + "goods 1 1 1;goods 1 20 9;seller 0 0;seller 1 0;seller 0 3;law 5 0 1;";

    private StandSentences() {
    }

    static void go() {
        scores();
        fearInScores();
        theLaw();
        theLawByWalk();
        atRest();
        settled();
        settledRoundByRound();
        restsAreSearched();
        theMostRests();
        scoresAreAsked();
        mayIsAsked();
        newcomersAreAsked();
        restIsAsked();
        settleIsAsked();
        restsAreAsked();
    }

    // ---- terms

    private static void scores() {
        Sentence.says(0, "SCORE of a SELLER at a CORNER: 60 times EARNS by how many SELLERS of its GOODS would be there "
            + "(with it), less 10 times (WORTH and FINE) times FEARED (cut as one).");
        int[] shares = {0, 5940, 2970, 1980, 1485, 1188};
        for (int many = 1; many <= 5; many++) {
            StringsSheet x = Checks.on("corner 99;corner 99;goods 1 1 0;" + "seller 0 0;".repeat(many));
            Sentence.due(many + " where it is", x.score(0, 0), shares[many] - 5);
            Sentence.due(many + " where the last one is", x.score(many - 1, 0), shares[many] - 5);
            Sentence.due("alone elsewhere", x.score(0, 1), 5940 - 5);
            x.goes(0, 1);
            Sentence.due("it would be the one of " + many, x.score(0, 0), shares[many] - 5);
        }
        StringsSheet x = Checks.on("corner 1;corner 0;goods 1 1 0;goods 1 1 0;seller 0 0;seller 1 0;seller 1 0;seller 1 1;");
        Sentence.due("others' goods do not count", x.score(0, 0), 60 - 5);
        Sentence.due("two of its goods", x.score(1, 0), 30 - 5);
        Sentence.due("three of its goods", x.score(3, 0), 20 - 5);
        Sentence.due("EARNS 0", x.score(1, 1), -5);
    }

    private static void fearInScores() {
        // WORTH and FINE 198: 1980 times FEARED.
        StringsSheet x = Checks.on("corner 0;corner 99;goods 1 99 99;seller 0 0;");
        Sentence.due("1 by 2", x.score(0, 0), -990);
        int[] comes = {1320, 1485, 1584, 1650, 1697, 1732, 1760, 1782, 1800, 1815, 1827, 1838};
        int[] not = {660, 495, 396, 330, 282, 247, 220, 198, 180, 165, 152, 141};
        for (int day = 0; day < 12; day++) {
            Checks.raid(x, 0);
            x.keep();
            Sentence.due("feared, day " + (day + 1), x.score(0, 0), -comes[day]);
            Sentence.due("not feared, day " + (day + 1), x.score(0, 1), 5940 - not[day]);
        }
        // FEARED is 1 by 3, WORTH and FINE 2: 20 by 3 is cut once, not FEARED by itself, nor 60 less 20 by 3.
        StringsSheet y = Checks.on("corner 1;corner 1;goods 1 1 1;seller 0 0;");
        Checks.raid(y, 1);
        y.keep();
        Sentence.due("20 by 3", y.score(0, 0), 60 - 6);
        Sentence.due("40 by 3", y.score(0, 1), 60 - 13);
    }

    private static void theLaw() {
        Sentence.says(0, "By the law it MAY stand at a CORNER, if no other SELLER of its GOODS is nearer than NEAR by WALK "
            + "(where there is no way it is far; NEAR 0: any).");
        for (int near = 0; near <= 20; near++) {
            for (int street : new int[] {1, Math.max(1, near - 1), Math.max(1, near), Math.min(20, near + 1)}) {
                StringsSheet x = Checks.on("corner 1;corner 1;corner 1;street 0 1 " + street + ";goods 1 1 1;goods 1 1 1;"
                    + "seller 0 0;seller 0 0;seller 1 0;law " + near + " 0 1;");
                int due = 4 + (near == 0 ? 1 : 0) + (street >= near ? 2 : 0);
                Sentence.due("may, NEAR " + near + ", LONG " + street, x.may(0), due);
                Sentence.due("newcomer, NEAR " + near + ", LONG " + street, x.newcomer(0), due);
                Sentence.due("no other of its goods", x.may(2), 7);
            }
        }
    }

    private static void theLawByWalk() {
        String line = "corner 1;corner 1;corner 1;corner 1;street 0 1 3;street 1 2 3;street 0 2 9;goods 1 1 1;goods 1 1 1;";
        StringsSheet six = Checks.on(line + "seller 0 0;seller 0 2;law 6 0 1;");
        Sentence.due("6 by two streets is not nearer than 6", six.may(0), 1 + 8);
        StringsSheet seven = Checks.on(line + "seller 0 0;seller 0 2;law 7 0 1;");
        Sentence.due("6 by two streets is nearer than 7, 9 by one is not asked for", seven.may(0), 8);
        Sentence.due("where the first one may not stand, the second may not either", seven.may(1), 8);
        StringsSheet alone = Checks.on(line + "seller 0 0;seller 1 0;law 20 0 1;");
        Sentence.due("it is not near itself", alone.may(0), 15);
        Sentence.due("a new one is near it", alone.newcomer(0), 8);
        // The law looks at all others, the first and the last among them.
        StringsSheet three = Checks.on(line + "seller 0 3;seller 0 0;seller 0 0;law 4 0 1;");
        Sentence.due("by the others at 0", three.may(0), 4 + 8);
        Sentence.due("by the one at 3 and the one at 0", three.may(1), 4);
        Sentence.due("by the one at 3 and the one at 0", three.may(2), 4);
        Sentence.due("by all three", three.newcomer(0), 4);
    }

    private static void atRest() {
        Sentence.says(0, "AT REST: no SELLER has a greater SCORE at another CORNER at which it MAY stand "
            + "(others as they are).");
        Sentence.due("nobody", Checks.on("corner 1;corner 9;goods 1 1 1;").rest(), 1);
        Sentence.due("one corner", Checks.on("corner 1;goods 1 1 1;seller 0 0;").rest(), 1);
        Sentence.due("as much elsewhere", Checks.on("corner 7;corner 7;goods 1 1 1;seller 0 1;").rest(), 1);
        Sentence.due("less elsewhere", Checks.on("corner 7;corner 6;goods 1 1 1;seller 0 0;").rest(), 1);
        Sentence.due("more elsewhere", Checks.on("corner 7;corner 8;goods 1 1 1;seller 0 0;").rest(), 0);
        Sentence.due("more at a lower corner", Checks.on("corner 8;corner 7;goods 1 1 1;seller 0 1;").rest(), 0);
        String two = "goods 1 1 1;seller 0 0;seller 0 0;";
        Sentence.due("half of 8 is 4", Checks.on("corner 8;corner 4;" + two).rest(), 1);
        Sentence.due("half of 8 is less than 5", Checks.on("corner 8;corner 5;" + two).rest(), 0);
        Sentence.due("others' goods do not share",
            Checks.on("corner 8;corner 5;goods 1 1 1;goods 1 1 1;seller 0 0;seller 1 0;").rest(), 1);
        Sentence.due("only the last one would move",
            Checks.on("corner 8;corner 1;goods 1 1 1;goods 1 1 1;seller 0 0;seller 1 1;").rest(), 0);
        // Seller 1, at 2, would have 5 at 0, which is 3 from seller 0 at 1.
        String three = "corner 5;corner 9;corner 1;street 0 1 3;goods 1 1 1;seller 0 1;seller 0 2;";
        Sentence.due("more where it may stand, 3 from another", Checks.on(three + "law 3 0 1;").rest(), 0);
        Sentence.due("more where it may not stand, nearer than 4", Checks.on(three + "law 4 0 1;").rest(), 1);
        String back = "corner 5;corner 9;corner 1;street 0 1 3;goods 1 1 1;seller 0 2;seller 0 1;";
        Sentence.due("the first where it may stand", Checks.on(back + "law 3 0 1;").rest(), 0);
        Sentence.due("the first where it may not stand", Checks.on(back + "law 4 0 1;").rest(), 1);
        // On a day the raid came to 0: 60 less 13 there, 60 less 6 at 1.
        StringsSheet feared = Checks.on("corner 1;corner 1;goods 1 1 1;seller 0 0;");
        Checks.raid(feared, 0);
        Sentence.due("a raid that is not kept", feared.rest(), 1);
        feared.keep();
        Sentence.due("a day that is kept", feared.rest(), 0);
    }

    private static void stand(StringsSheet x, int... corners) {
        for (int s = 0; s < corners.length; s++) {
            Sentence.due("seller(" + s + ", 1)", x.seller(s, 1), corners[s]);
        }
    }

    // No town is known that needs 40 rounds, so NONE has no test: of one goods all lose alike, so that each move makes one
    // sum greater, that of 60 times EARNS by 1, by 2 and so on up to how many stand there, less what is feared.
    private static void settled() {
        Sentence.says(0, "SETTLED: SELLERS by numbers, round by round, each goes to the CORNER of the greatest SCORE (of "
            + "several the least) at which it MAY stand, if that is more than it has; till a round in which none moves, 40 "
            + "at most: how many rounds there were with a move; NONE: none of 40 was without.");
        Sentence.due("nobody", Checks.on("corner 1;corner 9;goods 1 1 1;").settle(), 0);
        StringsSheet same = Checks.on("corner 7;corner 7;corner 7;goods 1 1 1;seller 0 1;");
        Sentence.due("as much is not more", same.settle(), 0);
        stand(same, 1);
        StringsSheet least = Checks.on("corner 1;corner 8;corner 7;corner 8;goods 1 1 1;seller 0 0;");
        Sentence.due("one round", least.settle(), 1);
        stand(least, 1);
        StringsSheet last = Checks.on("corner 1;corner 1;corner 1;corner 1;corner 1;corner 1;corner 2;goods 1 1 1;seller 0 0;");
        Sentence.due("to the last corner", last.settle(), 1);
        stand(last, 6);
        // By numbers: seller 0 takes 2, then half of 2 is no more than 1 for seller 1, who takes 1.
        StringsSheet two = Checks.on("corner 0;corner 50;corner 99;goods 1 1 1;seller 0 0;seller 0 0;");
        Sentence.due("one round for two", two.settle(), 1);
        stand(two, 2, 1);
        StringsSheet law = Checks.on("corner 0;corner 50;corner 99;street 1 2 3;goods 1 1 1;seller 0 0;seller 0 0;law 4 0 1;");
        Sentence.due("seller 1 may not stand near 2", law.settle(), 1);
        stand(law, 2, 0);
        StringsSheet nowhere = Checks.on("corner 5;corner 9;street 0 1 1;goods 1 1 1;seller 0 0;seller 0 0;law 2 0 1;");
        Sentence.due("nowhere to go", nowhere.settle(), 0);
        stand(nowhere, 0, 0);
    }

    /** The same by score(), may() and goes() alone. */
    private static int settleByHand(StringsSheet x, int sellers, int corners) {
        for (int round = 0; round < 40; round++) {
            boolean moved = false;
            for (int s = 0; s < sellers; s++) {
                long most = x.score(s, (int) x.seller(s, 1));
                long may = x.may(s);
                int best = -1;
                for (int c = 0; c < corners; c++) {
                    long score = x.score(s, c);
                    if ((may >> c & 1) == 1 && score > most) {
                        best = c;
                        most = score;
                    }
                }
                if (best >= 0) {
                    x.goes(s, best);
                    moved = true;
                }
            }
            if (!moved) {
                return round;
            }
        }
        return -1;
    }

    private static void settledRoundByRound() {
        String[] texts = {SLOW, SLOWER, BLOCKED};
        int[] rounds = {3, 2, 1};
        for (int k = 0; k < texts.length; k++) {
            StringsSheet x = Checks.on(texts[k]);
            StringsSheet hand = Checks.on(texts[k]);
            int sellers = (int) x.count(4);
            Sentence.due("rounds by hand", settleByHand(hand, sellers, (int) x.count(1)), rounds[k]);
            Sentence.due("rounds", x.settle(), rounds[k]);
            for (int s = 0; s < sellers; s++) {
                Sentence.due("where seller " + s + " stands", x.seller(s, 1), hand.seller(s, 1));
            }
            Sentence.due("at rest", x.rest(), 1);
            Sentence.due("no round more", x.settle(), 0);
        }
    }

    private static int restsByHand(StringsSheet x, int sellers, int corners) {
        int all = 1;
        for (int s = 0; s < sellers; s++) {
            all *= corners;
        }
        int seen = 0;
        for (int way = 0; way < all; way++) {
            int left = way;
            int number = 0;
            int weight = 1;
            for (int s = 0; s < sellers; s++) {
                x.goes(s, left % corners);
                number += weight * (left % corners);
                weight *= 7;
                left /= corners;
            }
            boolean lawful = true;
            for (int s = 0; s < sellers; s++) {
                lawful &= (x.may(s) >> x.seller(s, 1) & 1) == 1;
            }
            if (lawful && x.rest() == 1) {
                Sentence.due("rests(" + seen + ")", x.rests(seen), number);
                seen++;
            }
        }
        return seen;
    }

    private static void restsAreSearched() {
        Sentence.says(0, "RESTS: of all ways to stand (each SELLER at any CORNER) those AT REST in which all MAY stand where "
            + "they are: how many; as numbers: CORNER of SELLER 0, 7 times that of SELLER 1, 49 times, and so on.");
        String[] texts = {
            "corner 9;corner 9;corner 5;goods 1 1 1;seller 0 0;seller 0 0;",
            "corner 9;corner 9;corner 5;goods 1 1 1;goods 1 1 1;seller 0 0;seller 1 0;",
            "corner 9;corner 8;corner 5;corner 3;street 0 1 2;street 2 3 2;goods 1 1 1;seller 0 0;seller 0 3;law 3 0 1;",
            "corner 5;corner 9;corner 1;street 1 2 3;goods 1 1 1;seller 0 0;seller 0 2;law 4 0 1;",
            "corner 5;corner 9;street 0 1 1;goods 1 1 1;seller 0 0;seller 0 0;law 2 0 1;",
            "corner 5;corner 9;corner 9;street 0 1 1;goods 1 1 1;goods 1 1 1;seller 0 0;seller 1 0;seller 0 0;law 1 0 1;"};
        int[] due = {2, 4, -1, -1, 0, -1};
        for (int k = 0; k < texts.length; k++) {
            StringsSheet x = Checks.on(texts[k]);
            int seen = restsByHand(x, (int) x.count(4), (int) x.count(1));
            Sentence.due("rests(-1) of " + texts[k], x.rests(-1), seen);
            Sentence.due("one more than there are", x.rests(seen), Checks.NONE);
            if (due[k] >= 0) {
                Sentence.due("how many of " + texts[k], seen, due[k]);
            }
        }
        // Seller 0 at 1 keeps seller 1 from 1 and from 0, which are near: 9 and 1 is a rest, 1 and 9 is one, too.
        StringsSheet x = Checks.on("corner 8;corner 9;corner 1;street 0 1 3;goods 1 1 1;seller 0 0;seller 0 2;law 4 0 1;");
        Sentence.due("two", x.rests(-1), 2);
        Sentence.due("seller 0 at 2, seller 1 at 1", x.rests(0), 2 + 7);
        Sentence.due("seller 0 at 1, seller 1 at 2", x.rests(1), 1 + 14);
    }

    private static void theMostRests() {
        String five = "seller 0 0;seller 0 1;seller 1 2;seller 2 3;seller 3 4;";
        String goods = "goods 1 1 0;".repeat(4);
        StringsSheet all = Checks.on("corner 0;".repeat(7) + goods + five);
        Sentence.due("all ways", all.rests(-1), 16807);
        Sentence.due("the first", all.rests(0), 0);
        Sentence.due("the second", all.rests(1), 1);
        Sentence.due("seller 1 at 1", all.rests(7), 7);
        Sentence.due("seller 2 at 1", all.rests(49), 49);
        Sentence.due("seller 3 at 1", all.rests(343), 343);
        Sentence.due("seller 4 at 1", all.rests(2401), 2401);
        Sentence.due("the last", all.rests(16806), 16806);
        Sentence.due("not so many", all.rests(16807), Checks.NONE);
        stand(all, 0, 1, 2, 3, 4);
        StringsSheet one = Checks.on("corner 0;".repeat(6) + "corner 99;" + goods + five);
        Sentence.due("one way", one.rests(-1), 1);
        Sentence.due("all at 6", one.rests(0), 16806);
        manyAtOneCorner();
        StringsSheet none = Checks.on("corner 9;goods 1 1 1;");
        Sentence.due("nobody stands in one way", none.rests(-1), 1);
        Sentence.due("its number", none.rests(0), 0);
        Sentence.due("not two", none.rests(1), Checks.NONE);
    }

    /** Five of the same goods: a share of 99 by so many beside what another corner earns. */
    private static void manyAtOneCorner() {
        String sellers = "goods 1 1 1;" + "seller 0 0;".repeat(5);
        // A fifth of 99 is between 19 and 20; a half of 49 is less than a fourth of 99, a half of 50 more.
        int[] earns = {19, 20, 49, 50, 98};
        int[] elsewhere = {0, 1, 1, 2, 2};
        int[] ways = {1, 5, 5, 10, 10};
        for (int k = 0; k < earns.length; k++) {
            StringsSheet x = Checks.on("corner 99;corner " + earns[k] + ";" + sellers);
            Sentence.due("how many ways beside " + earns[k], x.rests(-1), ways[k]);
            for (int i = 0; i < ways[k]; i++) {
                Sentence.due("so many elsewhere", countOf(1, x.rests(i)), elsewhere[k]);
            }
        }
        // A third of 99 is as much as a third of 99: two or three elsewhere.
        StringsSheet alike = Checks.on("corner 99;corner 99;" + sellers);
        Sentence.due("how many ways beside 99", alike.rests(-1), 20);
        Sentence.due("the first", alike.rests(0), 1 + 7);
        Sentence.due("the last", alike.rests(19), 49 + 343 + 2401);
    }

    private static int countOf(int corner, long number) {
        int count = 0;
        for (int s = 0; s < 5; s++) {
            count += number % 7 == corner ? 1 : 0;
            number /= 7;
        }
        return count;
    }

    // ---- promises

    private static void scoresAreAsked() {
        Sentence.says(19, "SCORE of a SELLER at a CORNER (others as they are).");
        StringsSheet x = Checks.on("corner 10;corner 20;street 0 1 1;goods 1 1 0;seller 0 0;seller 0 1;law 20 0 1;");
        Sentence.due("where it is", x.score(0, 0), 600 - 5);
        Sentence.due("where it may not stand", x.score(0, 1), 600 - 5);
        x.goes(1, 0);
        Sentence.due("where it is, with another", x.score(0, 0), 300 - 5);
        Sentence.due("elsewhere", x.score(0, 1), 1200 - 5);
        stand(x, 0, 0);
        Sentence.says(19, "BAD.");
        for (int bad : new int[] {LEAST, -1, 2, 5, 7, MOST}) {
            Sentence.due("score(" + bad + ", 0)", x.score(bad, 0), Checks.BAD);
            Sentence.due("score(0, " + bad + ")", x.score(0, bad), Checks.BAD);
        }
        Sentence.due("no pavement", new StringsSheet().score(0, 0), Checks.BAD);
    }

    private static void mayIsAsked() {
        Sentence.says(20, "CORNERS (bits) at which a SELLER MAY stand.");
        StringsSheet x = Checks.on("corner 1;".repeat(7) + "goods 1 1 1;goods 1 1 1;seller 0 6;seller 0 3;seller 1 3;law 1 0 1;");
        Sentence.due("all but 3", x.may(0), 127 - 8);
        Sentence.due("all but 6", x.may(1), 127 - 64);
        Sentence.due("all", x.may(2), 127);
        x.goes(1, 0);
        Sentence.due("all but 0", x.may(0), 126);
        StringsSheet none = Checks.on("corner 1;goods 1 1 1;seller 0 0;seller 0 0;law 1 0 1;");
        Sentence.due("nowhere", none.may(0), 0);
        Sentence.says(20, "BAD.");
        for (int bad : new int[] {LEAST, -1, 3, 5, MOST}) {
            Sentence.due("may(" + bad + ")", x.may(bad), Checks.BAD);
        }
        Sentence.due("no pavement", new StringsSheet().may(0), Checks.BAD);
    }

    private static void newcomersAreAsked() {
        Sentence.says(21, "CORNERS (bits) at which a new SELLER of GOODS MAY stand.");
        StringsSheet x = Checks.on("corner 1;".repeat(7) + "goods 1 1 1;goods 1 1 1;goods 1 1 1;seller 0 6;seller 0 3;seller 1 0;law 1 0 1;");
        Sentence.due("all but 3 and 6", x.newcomer(0), 127 - 8 - 64);
        Sentence.due("all but 0", x.newcomer(1), 126);
        Sentence.due("nobody has these goods", x.newcomer(2), 127);
        StringsSheet full = Checks.on("corner 1;goods 1 1 1;" + "seller 0 0;".repeat(5));
        Sentence.due("though there are five", full.newcomer(0), 1);
        StringsSheet none = Checks.on("corner 1;goods 1 1 1;seller 0 0;law 1 0 1;");
        Sentence.due("nowhere", none.newcomer(0), 0);
        Sentence.says(21, "BAD.");
        for (int bad : new int[] {LEAST, -1, 3, 4, MOST}) {
            Sentence.due("newcomer(" + bad + ")", x.newcomer(bad), Checks.BAD);
        }
        Sentence.due("no pavement", new StringsSheet().newcomer(0), Checks.BAD);
    }

    private static void restIsAsked() {
        Sentence.says(22, "Whether all are AT REST: 1, 0.");
        StringsSheet x = Checks.on("corner 1;corner 2;goods 1 1 1;seller 0 0;");
        Sentence.due("not at rest", x.rest(), 0);
        stand(x, 0);
        x.goes(0, 1);
        Sentence.due("at rest", x.rest(), 1);
        Sentence.says(22, "STATE: no PAVEMENT.");
        Sentence.due("no pavement", new StringsSheet().rest(), Checks.STATE);
        StringsSheet faulty = new StringsSheet();
        Checks.feed(faulty, "corner 1;");
        faulty.pavement();
        Sentence.due("behind a fault", faulty.rest(), Checks.STATE);
    }

    private static void settleIsAsked() {
        Sentence.says(23, "SETTLED; they stand so then (as behind the 40th round, where it is NONE).");
        StringsSheet x = Checks.on("corner 1;corner 2;goods 1 1 1;seller 0 0;");
        Sentence.due("a round", x.settle(), 1);
        stand(x, 1);
        Sentence.due("no more", x.settle(), 0);
        stand(x, 1);
        Sentence.says(23, "STATE: no PAVEMENT.");
        Sentence.due("no pavement", new StringsSheet().settle(), Checks.STATE);
    }

    private static void restsAreAsked() {
        Sentence.says(24, "RESTS: how many (i = -1), the i-th, by numbers; NONE: not so many.");
        StringsSheet x = Checks.on("corner 9;corner 9;corner 1;goods 1 1 1;seller 0 2;seller 0 2;");
        Sentence.due("how many", x.rests(-1), 2);
        Sentence.due("the first, seller 0 at 1", x.rests(0), 1);
        Sentence.due("the second, seller 1 at 1", x.rests(1), 7);
        Sentence.due("not so many", x.rests(2), Checks.NONE);
        Sentence.due("not so many by far", x.rests(MOST), Checks.NONE);
        stand(x, 2, 2);
        Sentence.says(24, "BAD: i below -1; STATE: no PAVEMENT.");
        Sentence.due("rests(-2)", x.rests(-2), Checks.BAD);
        Sentence.due("rests(least)", x.rests(LEAST), Checks.BAD);
        StringsSheet none = new StringsSheet();
        Sentence.due("no pavement", none.rests(-1), Checks.STATE);
        Sentence.due("no pavement", none.rests(MOST), Checks.STATE);
        Sentence.due("no pavement, below -1", none.rests(-2), Checks.BAD);
    }
}
