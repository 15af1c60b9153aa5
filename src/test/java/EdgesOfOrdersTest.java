/** Promises 5 to 11 at their edges: child, now, errs, call, comesBack, undo, lot. */
public final class EdgesOfOrdersTest {
    private static final int SAID = 1;
    private static final int BARE = 2;
    private static final int SHOWN = 3;
    private static final int QUICK = 4;
    private static final int MIN = Integer.MIN_VALUE;
    private static final int MAX = Integer.MAX_VALUE;
    private static final String ONE = "child 1 2 9;";
    /** Each copies the one ahead of it; a SHOWN order fells every leader for sure. */
    private static final String CHAIN = "child 9 9 9;child 9 9 0;child 9 9 1;child 9 9 2;child 9 9 3;child 9 9 4;";
    private static final int[] NO_CHILD = {-1, 6, 7, 9, 31, 32, 33, 64, MIN, MIN + 1, MAX};
    private static final int[] NO_ORDER = {0, 5, -1, 6, 9, 33, MIN, MIN + 1, MAX};

    public static void main(String[] args) {
        Edges edges = new Edges("EdgesOfOrdersTest");
        refusals(edges);
        children(edges);
        now(edges);
        errs(edges);
        calls(edges);
        lots(edges);
        comingBack(edges);
        undoing(edges);
        edges.finish(5, 6, 7, 8, 9, 10, 11);
    }

    private static void refusals(Edges edges) {
        edges.of(5, "BAD: there is no such child", EdgesOfOrdersTest::noSuchChild);
        edges.of(5, "BAD: what is not 0 .. 5", EdgesOfOrdersTest::childWhat);
        edges.of(6, "BAD: what is not 0 .. 3", EdgesOfOrdersTest::nowWhat);
        edges.of(7, "BAD", EdgesOfOrdersTest::errsBad);
        edges.of(7, "STATE: it is out", EdgesOfOrdersTest::errsOut);
        edges.of(7, "the first of these: BAD, STATE", EdgesOfOrdersTest::errsBadAheadOfState);
        edges.of(8, "BAD", EdgesOfOrdersTest::callBad);
        edges.of(8, "STATE: nobody is in", EdgesOfOrdersTest::callNobody);
        edges.of(8, "the first of these: BAD, STATE", EdgesOfOrdersTest::callBadAheadOfState);
        edges.of(9, "BAD", EdgesOfOrdersTest::comesBackBad);
        edges.of(9, "STATE: it is in", EdgesOfOrdersTest::comesBackIn);
        edges.of(10, "STATE: none", EdgesOfOrdersTest::undoNone);
    }

    private static void children(Edges edges) {
        edges.of(5, "Of a child: the first and the last", EdgesOfOrdersTest::firstAndLastChild);
        edges.of(5, "2 COPIES (9: none)", EdgesOfOrdersTest::copiesNone);
        edges.of(5, "4 whether it is in", EdgesOfOrdersTest::whetherIn);
        edges.of(5, "5 its LEADER (NONE: it is out)", EdgesOfOrdersTest::leaderOfWhoIsOut);
        edges.of(5, "LEADER: itself, if it COPIES none, or one who is out; else the LEADER of whom it COPIES",
                EdgesOfOrdersTest::leadersOfAChain);
    }

    private static void now(Edges edges) {
        edges.of(6, "0 who is in (bits)", EdgesOfOrdersTest::whoIsIn);
        edges.of(6, "1 the STREAK (0 .. 9)", EdgesOfOrdersTest::streakOfSaid);
        edges.of(6, "2 FAIR: no LITTLE one is out while one who is not LITTLE is in", EdgesOfOrdersTest::fair);
        edges.of(6, "3 how many may be UNDONE: 12 at most", EdgesOfOrdersTest::mayBeUndone);
    }

    private static void errs(Edges edges) {
        edges.of(7, "SAID 0", EdgesOfOrdersTest::errsBySaid);
        edges.of(7, "BARE SLIP and STREAK (10 at most)", EdgesOfOrdersTest::errsByBare);
        edges.of(7, "SHOWN these and 2 (10 at most)", EdgesOfOrdersTest::errsByShown);
        edges.of(7, "QUICK LATE", EdgesOfOrdersTest::errsByQuick);
        edges.of(7, "for itself", EdgesOfOrdersTest::errsForItself);
    }

    private static void calls(Edges edges) {
        edges.of(8, "who falls, as bits: none", EdgesOfOrdersTest::noneFalls);
        edges.of(8, "who falls, as bits: all six", EdgesOfOrdersTest::allFall);
        edges.of(8, "who falls: not who was out", EdgesOfOrdersTest::whoWasOutFallsNoMore);
        edges.of(8, "it errs, if DRAW is less than ERRS", EdgesOfOrdersTest::drawLessThanErrs);
        edges.of(8, "ERRS 10: whatever the DRAW", EdgesOfOrdersTest::errsSurely);
        edges.of(8, "Who errs falls", EdgesOfOrdersTest::whoErrsFalls);
        edges.of(8, "who has another LEADER falls just if that one does, whatever it would", EdgesOfOrdersTest::fallsWithItsLeader);
        edges.of(8, "then the STREAK is 1 more (QUICK; 9 at most)", EdgesOfOrdersTest::streakOfQuick);
        edges.of(8, "then the STREAK is ..., or 0", EdgesOfOrdersTest::streakIs0);
        edges.of(8, "then: ERRS by the STREAK as it was ahead", EdgesOfOrdersTest::streakAheadOfTheOrder);
    }

    private static void lots(Edges edges) {
        edges.of(8, "for each LEADER THE LOT goes on", EdgesOfOrdersTest::lotForEachLeader);
        edges.of(8, "for each LEADER (by numbers)", EdgesOfOrdersTest::leadersByNumbers);
        edges.of(8, "THE LOT goes on, wrapped", EdgesOfOrdersTest::lotWrapped);
        edges.of(8, "DRAW: its upper 16 bits, as a number from 0 on, left over by 10", EdgesOfOrdersTest::upper16Bits);
        edges.of(11, "THE LOT becomes v: from the least to the greatest", EdgesOfOrdersTest::lotBecomes);
        edges.of(11, "what it was", EdgesOfOrdersTest::lotWas);
        edges.of(11, "THE LOT alone", EdgesOfOrdersTest::lotAlone);
    }

    private static void comingBack(Edges edges) {
        edges.of(9, "how many are in: from none to all", EdgesOfOrdersTest::howManyAreIn);
        edges.of(9, "it is in again: STREAK and THE LOT stay", EdgesOfOrdersTest::backStreakAndLot);
        edges.of(9, "it is in again: it can fall again", EdgesOfOrdersTest::fallsAgain);
    }

    private static void undoing(Edges edges) {
        edges.of(10, "12 are known", EdgesOfOrdersTest::twelveAreKnown);
        edges.of(10, "older ones are lost", EdgesOfOrdersTest::olderOnesAreLost);
        edges.of(10, "the latest that was not undone yet", EdgesOfOrdersTest::latestNotUndone);
        edges.of(10, "or who COMES BACK", EdgesOfOrdersTest::undoComesBack);
        edges.of(10, "UNDONE: who is in and the STREAK", EdgesOfOrdersTest::undoRestores);
        edges.of(10, "THE LOT stays", EdgesOfOrdersTest::undoLotStays);
        edges.of(10, "THE TRACE goes on, as behind undo()", EdgesOfOrdersTest::undoTraceGoesOn);
        edges.of(10, "the latest ORDER, or who COMES BACK: no other call", EdgesOfOrdersTest::undoNoOtherCall);
    }

    // ---- help

    /** 1103515245 times this is 1, wrapped. */
    private static final int INVERSE = -289805467;

    /** So that THE LOT, gone on once, is this. */
    private static void nextLot(SimonSays x, int next) {
        x.lot((next - 12345) * INVERSE);
    }

    private static void nextDraw(SimonSays x, int draw) {
        nextLot(x, draw << 16);
    }

    private static int theLot(SimonSays x) {
        int lot = x.lot(0);
        x.lot(lot);
        return lot;
    }

    private static SimonSays withStreak(String text, int streak) {
        SimonSays x = Due.told(text);
        for (int n = 0; n < streak; n++) {
            x.call(SAID);
        }
        return x;
    }

    /** Children told by a text in which all fall by SHOWN; of them just these are in. */
    private static SimonSays justIn(String text, int set) {
        SimonSays x = Due.told(text);
        x.call(SHOWN);
        x.call(SHOWN);
        for (int k = 0; k < x.count(0); k++) {
            if ((set >> k & 1) == 1 && x.child(k, 4) == 0) {
                x.comesBack(k);
            }
        }
        if (x.now(0) != set) {
            throw new IllegalStateException("the test's own way does not lead to " + set);
        }
        return x;
    }

    // ---- what is refused

    private static void noSuchChild(Due due) {
        for (int what = 0; what <= 5; what++) {
            for (int k : NO_CHILD) {
                int asked = what;
                Refusals.bad(due, "child(" + k + ", " + what + ")", x -> x.child(k, asked));
            }
            for (int told = 0; told <= 6; told++) {
                due.is("child(" + told + ", " + what + ") of " + told, Due.told(ONE.repeat(told)).child(told, what), -1);
            }
        }
    }

    private static void childWhat(Due due) {
        for (int what : new int[] {-1, 6, 7, MIN, MAX}) {
            Refusals.bad(due, "child(0, " + what + ")", x -> x.child(0, what));
        }
    }

    private static void nowWhat(Due due) {
        for (int what : new int[] {-1, 4, 5, MIN, MAX}) {
            Refusals.bad(due, "now(" + what + ")", x -> x.now(what));
        }
    }

    private static void errsBad(Due due) {
        for (int order : NO_ORDER) {
            Refusals.bad(due, "errs(0, " + order + ")", x -> x.errs(0, order));
        }
        for (int k : NO_CHILD) {
            for (int order = SAID; order <= QUICK; order++) {
                int asked = order;
                Refusals.bad(due, "errs(" + k + ", " + order + ")", x -> x.errs(k, asked));
            }
        }
        for (int told = 0; told <= 6; told++) {
            due.is("errs(" + told + ", 1) of " + told, Due.told(ONE.repeat(told)).errs(told, SAID), -1);
        }
    }

    private static void errsOut(Due due) {
        for (int order = SAID; order <= QUICK; order++) {
            int asked = order;
            Refusals.refused(due, "errs(3, " + order + ")", Refusals::amid, x -> x.errs(3, asked), Refusals.STATE);
            for (int k = 0; k < 3; k++) {
                int child = k;
                Refusals.refused(due, "errs(" + k + ", " + order + ")", Refusals::nobodyIn, x -> x.errs(child, asked), Refusals.STATE);
            }
        }
        SimonSays x = Refusals.amid();
        x.comesBack(3);
        due.is("errs(3, 4), in again", x.errs(3, QUICK), 9);
    }

    private static void errsBadAheadOfState(Due due) {
        for (int order : NO_ORDER) {
            Refusals.refused(due, "errs(3, " + order + "), out", Refusals::amid, x -> x.errs(3, order), Refusals.BAD);
        }
    }

    private static void callBad(Due due) {
        for (int order : NO_ORDER) {
            Refusals.bad(due, "call(" + order + ")", x -> x.call(order));
        }
    }

    private static void callNobody(Due due) {
        for (int order = SAID; order <= QUICK; order++) {
            int asked = order;
            Refusals.refused(due, "call(" + order + ") of a new object", SimonSays::new, x -> x.call(asked), Refusals.STATE);
            Refusals.refused(due, "call(" + order + "), all out", Refusals::nobodyIn, x -> x.call(asked), Refusals.STATE);
        }
        SimonSays x = Refusals.nobodyIn();
        x.comesBack(2);
        due.is("call(1), one in again", x.call(SAID), 0);
    }

    private static void callBadAheadOfState(Due due) {
        for (int order : NO_ORDER) {
            due.is("call(" + order + "), all out", Refusals.nobodyIn().call(order), -1);
            due.is("call(" + order + "), no children", new SimonSays().call(order), -1);
        }
    }

    private static void comesBackBad(Due due) {
        for (int k : NO_CHILD) {
            Refusals.bad(due, "comesBack(" + k + ")", x -> x.comesBack(k));
        }
        for (int told = 0; told <= 6; told++) {
            due.is("comesBack(" + told + ") of " + told, Due.told(ONE.repeat(told)).comesBack(told), -1);
        }
    }

    private static void comesBackIn(Due due) {
        for (int k = 0; k < 6; k++) {
            int child = k;
            Refusals.refused(due, "comesBack(" + k + ")", Refusals::full, x -> x.comesBack(child), Refusals.STATE);
        }
        Refusals.refused(due, "comesBack(4), back already", Refusals::amid, x -> x.comesBack(4), Refusals.STATE);
    }

    private static SimonSays allUndone(SimonSays x) {
        for (int n = x.now(3); n > 0; n--) {
            x.undo();
        }
        return x;
    }

    private static void undoNone(Due due) {
        Refusals.refused(due, "undo() of a new object", SimonSays::new, SimonSays::undo, Refusals.STATE);
        Refusals.refused(due, "undo(), all undone", () -> allUndone(Refusals.amid()), SimonSays::undo, Refusals.STATE);
        Refusals.refused(due, "undo(), twelve undone", () -> allUndone(Refusals.full()), SimonSays::undo, Refusals.STATE);
        Refusals.refused(due, "undo() behind back()", () -> {
            SimonSays x = Refusals.full();
            x.back(0);
            return x;
        }, SimonSays::undo, Refusals.STATE);
    }

    // ---- promise 5

    private static void firstAndLastChild(Due due) {
        for (int told = 1; told <= 6; told++) {
            SimonSays x = Due.told(ONE.repeat(told - 1) + "child 8 7 9;");
            due.is("child(0, 0) of " + told, x.child(0, 0), told == 1 ? 8 : 1);
            due.is("child(" + (told - 1) + ", 0)", x.child(told - 1, 0), 8);
            due.is("child(" + (told - 1) + ", 1)", x.child(told - 1, 1), 7);
            due.is("child(" + (told - 1) + ", 5)", x.child(told - 1, 5), told - 1);
        }
    }

    private static void copiesNone(Due due) {
        SimonSays x = Due.told(CHAIN);
        due.is("child(0, 2)", x.child(0, 2), 9);
        for (int k = 1; k < 6; k++) {
            due.is("child(" + k + ", 2)", x.child(k, 2), k - 1);
        }
        // as told, in or out
        x.call(SHOWN);
        due.is("child(0, 2), out", x.child(0, 2), 9);
        due.is("child(5, 2), both out", x.child(5, 2), 4);
    }

    private static void whetherIn(Due due) {
        SimonSays x = Due.told(CHAIN);
        due.is("child(5, 4), told", x.child(5, 4), 1);
        x.call(SHOWN);
        due.is("child(5, 4), fallen", x.child(5, 4), 0);
        x.comesBack(5);
        due.is("child(5, 4), back", x.child(5, 4), 1);
        due.is("child(4, 4), fallen", x.child(4, 4), 0);
        x.undo();
        due.is("child(5, 4), undone", x.child(5, 4), 0);
    }

    private static void leaderOfWhoIsOut(Due due) {
        SimonSays x = Refusals.amid();
        due.is("child(3, 5)", x.child(3, 5), -9);
        due.is("child(4, 5), copies one who is out", x.child(4, 5), 4);
        SimonSays nobody = Refusals.nobodyIn();
        for (int k = 0; k < 3; k++) {
            due.is("child(" + k + ", 5), all out", nobody.child(k, 5), -9);
        }
    }

    private static void leadersOfAChain(Due due) {
        for (int set = 0; set < 64; set++) {
            SimonSays x = justIn(CHAIN, set);
            int leader = -9;
            for (int k = 0; k < 6; k++) {
                boolean in = (set >> k & 1) == 1;
                leader = !in ? -9 : leader == -9 ? k : leader;
                due.is("child(" + k + ", 5), in are " + set, x.child(k, 5), leader);
            }
        }
        // over one who copies none to one far ahead of it
        SimonSays y = Due.told(ONE + ONE + ONE + ONE + "child 1 2 0;child 1 2 4;");
        due.is("child(5, 5)", y.child(5, 5), 0);
        due.is("child(4, 5)", y.child(4, 5), 0);
        due.is("child(3, 5)", y.child(3, 5), 3);
    }

    // ---- promise 6

    private static void whoIsIn(Due due) {
        for (int told = 0; told <= 6; told++) {
            due.is("now(0) of " + told, Due.told(ONE.repeat(told)).now(0), (1 << told) - 1);
        }
        due.is("now(0), 3 is out", Refusals.amid().now(0), 23);
        due.is("now(0), all out", Refusals.nobodyIn().now(0), 0);
    }

    private static void streakOfSaid(Due due) {
        SimonSays x = Due.told("child 0 0 9;");
        for (int n = 0; n <= 20; n++) {
            due.is("now(1) behind " + n + " SAID", x.now(1), Math.min(9, n));
            x.call(SAID);
        }
    }

    private static void fair(Due due) {
        // 9 9 9 each: all fall by SHOWN, so that every set can be the one that is in
        String three = "child 9 9 9;child 9 9 9;child 9 9 9;";
        String[] little = {"", "little 0;", "little 1;", "little 0;little 1;", "little 2;", "little 0;little 2;",
            "little 1;little 2;", "little 0;little 1;little 2;"};
        for (int small = 0; small < 8; small++) {
            for (int in = 0; in < 8; in++) {
                boolean littleOut = (small & ~in) != 0;
                boolean bigIn = (in & ~small) != 0;
                SimonSays x = justIn(three + little[small], in);
                due.is("now(2), little are " + small + ", in are " + in, x.now(2), littleOut && bigIn ? 0 : 1);
            }
        }
        due.is("now(2), no children", new SimonSays().now(2), 1);
    }

    private static void mayBeUndone(Due due) {
        SimonSays x = Due.told(ONE);
        for (int n = 0; n <= 20; n++) {
            due.is("now(3) behind " + n, x.now(3), Math.min(12, n));
            x.call(SAID);
        }
        for (int n = 11; n >= 0; n--) {
            x.undo();
            due.is("now(3), " + (12 - n) + " undone", x.now(3), n);
        }
    }

    // ---- promise 7

    private static void errsBySaid(Due due) {
        SimonSays x = withStreak("child 9 9 9;", 0);
        for (int streak = 0; streak <= 10; streak++) {
            due.is("errs(0, 1), STREAK " + x.now(1), x.errs(0, SAID), 0);
            x.call(SAID);
        }
    }

    private static void errsByBare(Due due) {
        for (int slip = 0; slip <= 9; slip++) {
            for (int streak = 0; streak <= 9; streak++) {
                SimonSays x = withStreak("child " + slip + " 5 9;", streak);
                due.is("errs(0, 2), SLIP " + slip + ", STREAK " + streak, x.errs(0, BARE), Math.min(10, slip + streak));
            }
        }
    }

    private static void errsByShown(Due due) {
        for (int slip = 0; slip <= 9; slip++) {
            for (int streak = 0; streak <= 9; streak++) {
                SimonSays x = withStreak("child " + slip + " 5 9;", streak);
                due.is("errs(0, 3), SLIP " + slip + ", STREAK " + streak, x.errs(0, SHOWN), Math.min(10, slip + streak + 2));
            }
        }
    }

    private static void errsByQuick(Due due) {
        for (int late = 0; late <= 9; late++) {
            for (int streak = 0; streak <= 9; streak++) {
                SimonSays x = withStreak("child 5 " + late + " 9;", streak);
                due.is("errs(0, 4), LATE " + late + ", STREAK " + streak, x.errs(0, QUICK), late);
            }
        }
    }

    private static void errsForItself(Due due) {
        SimonSays x = Due.told("child 9 8 9;child 0 1 0;child 4 3 1;");
        int[][] want = {{0, 9, 10, 8}, {0, 0, 2, 1}, {0, 4, 6, 3}};
        for (int k = 0; k < 3; k++) {
            for (int order = SAID; order <= QUICK; order++) {
                due.is("errs(" + k + ", " + order + ")", x.errs(k, order), want[k][order - 1]);
            }
        }
    }

    // ---- promise 8

    private static void noneFalls(Due due) {
        SimonSays x = Due.told(CHAIN);
        due.is("call(1)", x.call(SAID), 0);
        due.is("now(0)", x.now(0), 63);
        due.is("now(3), it counts as called", x.now(3), 1);
    }

    private static void allFall(Due due) {
        SimonSays chain = Due.told(CHAIN);
        due.is("call(3) of a chain", chain.call(SHOWN), 63);
        due.is("now(0)", chain.now(0), 0);
        due.is("call(3) again", chain.call(SHOWN), -2);
        SimonSays each = Due.told("child 9 9 9;".repeat(6));
        due.is("call(3) of six leaders", each.call(SHOWN), 63);
        SimonSays one = Due.told("child 9 9 9;");
        due.is("call(3) of one", one.call(SHOWN), 1);
    }

    private static void whoWasOutFallsNoMore(Due due) {
        SimonSays x = justIn("child 9 9 9;".repeat(6), 42);
        due.is("call(3), in are 42", x.call(SHOWN), 42);
        SimonSays chain = justIn(CHAIN, 52);
        due.is("call(3) of a chain, in are 52", chain.call(SHOWN), 52);
    }

    private static void drawLessThanErrs(Due due) {
        for (int late = 0; late <= 9; late++) {
            for (int draw = 0; draw <= 9; draw++) {
                SimonSays x = Due.told("child 0 " + late + " 9;");
                nextDraw(x, draw);
                due.is("call(4), ERRS " + late + ", DRAW " + draw, x.call(QUICK), draw < late ? 1 : 0);
            }
        }
    }

    private static void errsSurely(Due due) {
        for (int draw = 0; draw <= 9; draw++) {
            for (int slip = 8; slip <= 9; slip++) {
                SimonSays x = Due.told("child " + slip + " 0 9;");
                nextDraw(x, draw);
                due.is("call(3), SLIP " + slip + ", DRAW " + draw, x.call(SHOWN), 1);
            }
            SimonSays said = Due.told("child 9 9 9;");
            nextDraw(said, draw);
            due.is("call(1), DRAW " + draw, said.call(SAID), 0);
        }
    }

    private static void whoErrsFalls(Due due) {
        SimonSays x = Due.told("child 0 1 9;child 9 0 9;");
        nextDraw(x, 0);
        due.is("call(4)", x.call(QUICK), 1);
        due.is("child(0, 4)", x.child(0, 4), 0);
        due.is("child(1, 4)", x.child(1, 4), 1);
        due.is("now(0)", x.now(0), 2);
    }

    private static void fallsWithItsLeader(Due due) {
        // 2 copies 1, who copies 0
        for (int draw = 0; draw <= 9; draw++) {
            SimonSays never = Due.told("child 0 0 9;child 9 9 0;child 9 9 1;");
            nextDraw(never, draw);
            due.is("call(4), the LEADER never errs, DRAW " + draw, never.call(QUICK), 0);
            SimonSays surely = Due.told("child 9 9 9;child 0 0 0;child 0 0 1;");
            nextDraw(surely, draw);
            due.is("call(3), the LEADER surely errs, DRAW " + draw, surely.call(SHOWN), 7);
        }
        // with whom it copies out, it errs for itself
        SimonSays alone = justIn("child 9 9 9;child 9 1 0;", 2);
        nextDraw(alone, 0);
        due.is("call(4), DRAW 0", alone.call(QUICK), 2);
        SimonSays stays = justIn("child 9 9 9;child 9 1 0;", 2);
        nextDraw(stays, 1);
        due.is("call(4), DRAW 1", stays.call(QUICK), 0);
    }

    private static void streakOfQuick(Due due) {
        SimonSays x = Due.told("child 0 0 9;");
        for (int n = 0; n <= 12; n++) {
            due.is("now(1) behind " + n + " QUICK", x.now(1), Math.min(9, n));
            x.call(QUICK);
        }
        SimonSays mixed = withStreak("child 0 0 9;", 8);
        mixed.call(QUICK);
        due.is("now(1), QUICK at 8", mixed.now(1), 9);
        mixed.call(SAID);
        due.is("now(1), SAID at 9", mixed.now(1), 9);
    }

    private static void streakIs0(Due due) {
        for (int order = BARE; order <= SHOWN; order++) {
            for (int streak : new int[] {0, 1, 8, 9}) {
                SimonSays x = withStreak("child 0 0 9;child 9 9 9;", streak);
                x.call(order);
                due.is("now(1) behind " + order + ", it was " + streak, x.now(1), 0);
            }
            // also if all fall by it
            SimonSays all = withStreak("child 9 9 9;", 3);
            all.call(order);
            due.is("now(1), all fell", all.now(1), 0);
        }
        SimonSays quick = Due.told("child 0 9 9;");
        nextDraw(quick, 0);
        quick.call(QUICK);
        due.is("now(1), all fell by QUICK", quick.now(1), 1);
    }

    private static void streakAheadOfTheOrder(Due due) {
        // both err by STREAK 3: the first one's fall does not make it 0 for the second
        SimonSays x = withStreak("child 0 0 9;child 0 0 9;", 3);
        x.lot(1);
        due.is("call(2), DRAWS 8 6", x.call(BARE), 0);
        SimonSays y = withStreak("child 4 0 9;child 4 0 9;", 5);
        y.lot(1);
        due.is("call(2), DRAWS 8 6, ERRS 9", y.call(BARE), 3);
        // the streak is not 1 more yet: ERRS 6, DRAW 6
        SimonSays z = withStreak("child 5 0 9;", 1);
        nextDraw(z, 6);
        due.is("call(2), DRAW 6, ERRS 6", z.call(BARE), 0);
    }

    private static void lotForEachLeader(Due due) {
        // THE LOT from 1 on, gone on 0 to 6 times
        int[] lots = {1, 1103527590, -1770082073, 662824084, -999580867, -112468174, -1778682749};
        for (int leaders = 1; leaders <= 6; leaders++) {
            for (int order = SAID; order <= QUICK; order++) {
                SimonSays x = Due.told("child 9 9 9;".repeat(leaders));
                x.call(order);
                due.is("lot of " + leaders + " behind " + order, theLot(x), lots[leaders]);
            }
        }
        SimonSays chain = Due.told(CHAIN);
        chain.call(SAID);
        due.is("lot of a chain", theLot(chain), lots[1]);
        // of this chain 0, 2 and 4 with 5 are in: three LEADERS
        SimonSays some = justIn(CHAIN, 53);
        some.lot(1);
        some.call(SHOWN);
        due.is("lot of a chain, in are 53", theLot(some), lots[3]);
        SimonSays out = justIn("child 9 9 9;".repeat(6), 33);
        out.lot(1);
        out.call(QUICK);
        due.is("lot, two are in", theLot(out), lots[2]);
    }

    private static void leadersByNumbers(Due due) {
        // THE LOT from 1 on draws 8 6 3 3 9 5
        SimonSays two = Due.told("child 0 7 9;child 0 7 9;");
        due.is("call(4) of two", two.call(QUICK), 2);
        SimonSays six = Due.told("child 0 5 9;".repeat(6));
        due.is("call(4) of six, LATE 5", six.call(QUICK), 12);
        SimonSays most = Due.told("child 0 9 9;".repeat(6));
        due.is("call(4) of six, LATE 9", most.call(QUICK), 47);
        // 1 copies: the second DRAW is the third child's
        SimonSays copier = Due.told("child 0 7 9;child 0 9 0;child 0 7 9;");
        due.is("call(4), 1 draws nothing", copier.call(QUICK), 4);
    }

    private static void lotWrapped(Due due) {
        int[][] lots = {
            {MAX, 1043980748, -1858503659, -1501140182, 1751031067},
            {MIN, -2147471303, 1406932606, 654583775, 1449466924},
            {-1, -1103502900, 288979989, 646343466, -396452581},
            {0, 12345, -740551042, -1492899873, -698016724},
            {1, 1103527590, -1770082073, 662824084, -999580867}};
        for (int[] row : lots) {
            SimonSays x = Due.told("child 0 0 9;");
            x.lot(row[0]);
            for (int n = 1; n < row.length; n++) {
                x.call(SAID);
                due.is("lot behind " + n + ", from " + row[0], theLot(x), row[n]);
            }
        }
    }

    private static void upper16Bits(Due due) {
        int[] lots = {0, 0xffff, 0x10000, 0x1ffff, 0x90000, 0x9ffff, 0xa0000, 0x7fffffff, 0x80000000, 0x8000ffff, 0x80010000, 0xffff0000, 0xffffffff};
        int[] draws = {0, 0, 1, 1, 9, 9, 0, 7, 8, 8, 9, 5, 5};
        for (int n = 0; n < lots.length; n++) {
            for (int late = 0; late <= 9; late++) {
                SimonSays x = Due.told("child 0 " + late + " 9;");
                nextLot(x, lots[n]);
                due.is("call(4), LATE " + late + ", THE LOT becomes " + lots[n], x.call(QUICK), draws[n] < late ? 1 : 0);
                due.is("lot", theLot(x), lots[n]);
            }
        }
    }

    // ---- promise 9

    private static void howManyAreIn(Due due) {
        SimonSays x = justIn(CHAIN, 0);
        for (int k = 5; k >= 0; k--) {
            due.is("comesBack(" + k + ")", x.comesBack(k), 6 - k);
            due.is("comesBack(" + k + ") again", x.comesBack(k), -2);
        }
        due.is("now(0)", x.now(0), 63);
        SimonSays one = justIn("child 9 9 9;", 0);
        due.is("comesBack(0) of one", one.comesBack(0), 1);
    }

    private static void backStreakAndLot(Due due) {
        SimonSays x = Due.told("child 0 0 9;child 9 9 9;");
        x.call(SHOWN);
        for (int n = 0; n < 9; n++) {
            x.call(SAID);
        }
        x.lot(MIN);
        due.is("comesBack(1)", x.comesBack(1), 2);
        due.is("now(1)", x.now(1), 9);
        due.is("lot", theLot(x), MIN);
    }

    private static void fallsAgain(Due due) {
        SimonSays x = justIn(CHAIN, 0);
        x.comesBack(3);
        due.is("call(3)", x.call(SHOWN), 8);
        due.is("comesBack(3)", x.comesBack(3), 1);
        due.is("comesBack(2)", x.comesBack(2), 2);
        due.is("child(3, 5)", x.child(3, 5), 2);
        due.is("call(3)", x.call(SHOWN), 12);
    }

    // ---- promise 10

    private static void twelveAreKnown(Due due) {
        SimonSays x = Due.told(ONE);
        for (int n = 0; n < 12; n++) {
            x.call(SAID);
        }
        for (int n = 11; n >= 0; n--) {
            due.is("undo() of " + (n + 1), x.undo(), n);
            due.is("now(1)", x.now(1), Math.min(9, n));
        }
        due.is("undo() of none", x.undo(), -2);
    }

    private static void olderOnesAreLost(Due due) {
        for (int lost = 1; lost <= 14; lost++) {
            // by the first SHOWN one the second child falls, by the lost ones the streak comes to be
            SimonSays x = Due.told("child 0 0 9;child 9 9 9;");
            nextDraw(x, 9);
            due.is("call(3), 0 by DRAW 9", x.call(SHOWN), 2);
            for (int n = 1; n < lost + 12; n++) {
                x.call(SAID);
            }
            for (int n = 11; n >= 0; n--) {
                due.is("undo()", x.undo(), n);
            }
            due.is("now(1), " + lost + " are lost", x.now(1), Math.min(9, lost - 1));
            due.is("now(0)", x.now(0), 1);
            due.is("undo() of a lost one", x.undo(), -2);
        }
    }

    private static void latestNotUndone(Due due) {
        SimonSays x = Due.told("child 0 0 9;");
        int[] streaks = new int[13];
        for (int n = 0; n < 12; n++) {
            x.call(SAID);
        }
        for (int n = 0; n < 5; n++) {
            x.undo();
        }
        // seven are left; six more make thirteen: the oldest is lost
        for (int n = 0; n < 6; n++) {
            streaks[n] = x.now(1);
            x.call(QUICK);
        }
        due.is("now(3)", x.now(3), 12);
        for (int n = 5; n >= 0; n--) {
            due.is("undo()", x.undo(), 6 + n);
            due.is("now(1)", x.now(1), streaks[n]);
        }
        for (int n = 5; n >= 0; n--) {
            due.is("undo()", x.undo(), n);
            due.is("now(1)", x.now(1), n + 1);
        }
        due.is("undo()", x.undo(), -2);
    }

    private static void undoComesBack(Due due) {
        SimonSays x = justIn("child 9 9 9;".repeat(6), 0);
        int may = x.now(3);
        for (int k = 0; k < 6; k++) {
            x.comesBack(k);
            due.is("now(3)", x.now(3), may + k + 1);
        }
        for (int k = 5; k >= 0; k--) {
            due.is("undo()", x.undo(), may + k);
            due.is("now(0)", x.now(0), (1 << k) - 1);
        }
        // as one of twelve
        SimonSays y = justIn("child 9 9 9;", 0);
        y.comesBack(0);
        for (int n = 0; n < 11; n++) {
            y.call(SAID);
        }
        due.is("now(3)", y.now(3), 12);
        for (int n = 0; n < 11; n++) {
            y.undo();
        }
        due.is("now(0)", y.now(0), 1);
        due.is("undo() of who came back", y.undo(), 0);
        due.is("now(0)", y.now(0), 0);
        due.is("undo() of what is lost", y.undo(), -2);
    }

    private static void undoRestores(Due due) {
        SimonSays x = withStreak(CHAIN, 9);
        due.is("call(2)", x.call(BARE), 63);
        due.is("now(1)", x.now(1), 0);
        due.is("undo()", x.undo(), 9);
        due.is("now(0)", x.now(0), 63);
        due.is("now(1)", x.now(1), 9);
        x.call(SAID);
        due.is("undo() of SAID at 9", x.undo(), 9);
        due.is("now(1)", x.now(1), 9);
        due.is("undo() of SAID at 8", x.undo(), 8);
        due.is("now(1)", x.now(1), 8);
    }

    private static void undoLotStays(Due due) {
        SimonSays x = Due.told(ONE + ONE);
        x.call(SAID);
        due.is("lot", theLot(x), -1770082073);
        x.undo();
        due.is("lot behind undo()", theLot(x), -1770082073);
        x.call(SAID);
        x.lot(MAX);
        x.undo();
        due.is("lot behind lot(max) and undo()", theLot(x), MAX);
    }

    private static void undoTraceGoesOn(Due due) {
        SimonSays x = Due.told(ONE);
        x.rate(0, 0);
        x.call(SAID);
        x.rate(1, 0);
        x.undo();
        due.is("trace()", x.trace(), 12);
        due.is("undo() of none", x.undo(), -2);
        due.is("trace()", x.trace(), 12);
    }

    private static void undoNoOtherCall(Due due) {
        SimonSays x = Due.told(ONE);
        x.call(SAID);
        x.lot(5);
        x.keep(0);
        x.type(32, 1);
        x.clear();
        x.rate(0, 0);
        x.best(3);
        x.call(9);
        x.comesBack(0);
        due.is("now(3)", x.now(3), 1);
        due.is("undo()", x.undo(), 0);
        due.is("now(1)", x.now(1), 0);
        due.is("undo()", x.undo(), -2);
    }

    // ---- promise 11

    private static void lotBecomes(Due due) {
        for (int v : new int[] {MIN, MIN + 1, -65537, -1, 0, 1, 65535, 65536, MAX - 1, MAX}) {
            SimonSays x = new SimonSays();
            x.lot(v);
            due.is("lot(0)", x.lot(0), v);
            // a number that means a refusal elsewhere is none here
            due.is("lot(-1)", x.lot(-1), 0);
            due.is("lot(-2)", x.lot(-2), -1);
        }
    }

    private static void lotWas(Due due) {
        SimonSays x = Due.told(ONE);
        due.is("lot(7)", x.lot(7), 1);
        due.is("lot(7)", x.lot(7), 7);
        x.call(SAID);
        due.is("lot(7), gone on", x.lot(7), 7 * 1103515245 + 12345);
    }

    private static void lotAlone(Due due) {
        SimonSays set = Refusals.amid();
        set.lot(12);
        set.lot(-77);
        due.is("where it shows", Sight.firstDifference(set, Refusals.amid()), -1);
    }
}
