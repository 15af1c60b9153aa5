/** Promises 12 to 19 at their edges: falls, many, stays, left, best, lure, could, likeliest. */
public final class EdgesOfChancesTest {
    private static final int SAID = 1;
    private static final int BARE = 2;
    private static final int SHOWN = 3;
    private static final int QUICK = 4;
    private static final int MIN = Integer.MIN_VALUE;
    private static final int MAX = Integer.MAX_VALUE;
    private static final String ONE = "child 1 2 9;";
    /** Two groups: 0 with 1 and 2; 3 by itself. */
    private static final String FOUR = "child 3 2 9;child 5 4 0;child 1 0 1;child 8 9 9;";
    private static final String CHAIN = "child 9 9 9;child 9 9 0;child 9 9 1;child 9 9 2;child 9 9 3;child 9 9 4;";
    private static final int[] NO_CHILD = {-1, 6, 7, 9, 31, 32, 33, 64, MIN, MIN + 1, MAX};
    private static final int[] NO_ORDER = {0, 5, -1, 6, 9, 33, MIN, MIN + 1, MAX};
    private static final int[] NO_HALF = {-1, 2, 3, MIN, MAX};
    private static final int[] NO_SET = {64, 65, 127, 128, 1 << 16, -1, -2, -64, MIN, MIN + 1, MAX};
    private static final int[] NO_ROW = {-1, -12, 5, 6, 9, 10, 15, 20, 51, 101, 105, 115, 150, 151, 500, 511, 900, MIN, MIN + 1};

    public static void main(String[] args) {
        Edges edges = new Edges("EdgesOfChancesTest");
        falling(edges);
        numbers(edges);
        staying(edges);
        oneLeft(edges);
        luring(edges);
        whatItWas(edges);
        nothingIsChanged(edges);
        edges.finish(12, 13, 14, 15, 16, 17, 18, 19);
    }

    private static void falling(Edges edges) {
        edges.of(12, "BAD: an ORDER is 1 .. 4", EdgesOfChancesTest::fallsOrder);
        edges.of(12, "BAD (bits of nobody, too)", EdgesOfChancesTest::fallsSet);
        edges.of(12, "upper (what = 0), lower number (1): BAD", EdgesOfChancesTest::fallsWhat);
        edges.of(12, "just a set: none", EdgesOfChancesTest::justNoneFalls);
        edges.of(12, "just a set: all six", EdgesOfChancesTest::justAllFall);
        edges.of(12, "just a set: one of it that falls just with another", EdgesOfChancesTest::halfAGroupFalls);
        edges.of(12, "just a set: one of it is out", EdgesOfChancesTest::whoIsOutFalls);
        edges.of(12, "the chance: of all sets it is 1", EdgesOfChancesTest::allSetsAre1);
        edges.of(12, "in least terms: 0 by 1, 1 by 1, a million below", EdgesOfChancesTest::fallsInLeastTerms);
    }

    private static void numbers(Edges edges) {
        edges.of(13, "BAD: an ORDER is 1 .. 4", EdgesOfChancesTest::manyOrder);
        edges.of(13, "just n (0 .. 6): BAD", EdgesOfChancesTest::manyNumber);
        edges.of(13, "upper (what = 0), lower number (1): BAD", EdgesOfChancesTest::manyWhat);
        edges.of(13, "just n (0 .. 6): none and all six", EdgesOfChancesTest::noneAndAllSix);
        edges.of(13, "just n (0 .. 6): more than there are, or are in", EdgesOfChancesTest::moreThanThereAre);
        edges.of(13, "just n: of all numbers the chance is 1", EdgesOfChancesTest::allNumbersAre1);
        edges.of(13, "in least terms", EdgesOfChancesTest::manyInLeastTerms);
    }

    private static void staying(Edges edges) {
        edges.of(14, "BAD: there is no such child", EdgesOfChancesTest::staysChild);
        edges.of(14, "BAD (a figure is none, too)", EdgesOfChancesTest::staysRow);
        edges.of(14, "9 at most", EdgesOfChancesTest::staysNine);
        edges.of(14, "upper (what = 0), lower number (1): BAD", EdgesOfChancesTest::staysWhat);
        edges.of(14, "0: none", EdgesOfChancesTest::staysByNone);
        edges.of(14, "figures 1 .. 4, the first one the highest", EdgesOfChancesTest::staysFirstIsHighest);
        edges.of(14, "0 by 1 for who is out", EdgesOfChancesTest::staysOut);
        edges.of(14, "the STREAK behind each ORDER: 9 at most, or 0", EdgesOfChancesTest::staysStreak);
        edges.of(14, "a child is in: if its LEADER is", EdgesOfChancesTest::staysByItsLeader);
        edges.of(14, "in least terms: 0 by 1, 1 by 1, 10^9 below", EdgesOfChancesTest::staysInLeastTerms);
    }

    private static void oneLeft(Edges edges) {
        edges.of(15, "a row of 3 ORDERS at most: BAD", EdgesOfChancesTest::leftRow);
        edges.of(15, "a row of 3 ORDERS at most: all that are taken", EdgesOfChancesTest::leftRowsTaken);
        edges.of(15, "upper (what = 0), lower number (1): BAD", EdgesOfChancesTest::leftWhat);
        edges.of(15, "behind a row (0: none)", EdgesOfChancesTest::leftByNone);
        edges.of(15, "just one is in: nobody is, or never one alone", EdgesOfChancesTest::leftNever);
        edges.of(15, "in least terms: the greatest numbers", EdgesOfChancesTest::leftGreatest);
        edges.of(16, "BEST of n (0 .. 3): BAD", EdgesOfChancesTest::bestBad);
        edges.of(16, "BEST of n (0 .. 3): n ORDERS", EdgesOfChancesTest::bestOfEachLength);
        edges.of(16, "of several the least number", EdgesOfChancesTest::bestLeastOfSeveral);
        edges.of(16, "the row by which that is most: the last one", EdgesOfChancesTest::bestLastRow);
        edges.of(16, "the row by which that is most: of all rows", EdgesOfChancesTest::bestOfAllRows);
    }

    private static void luring(Edges edges) {
        edges.of(17, "BAD: there is no such child", EdgesOfChancesTest::lureChild);
        edges.of(17, "BAD (c 0 .. 10)", EdgesOfChancesTest::lureC);
        edges.of(17, "the fewest SAID ORDERS (0 .. 9)", EdgesOfChancesTest::lureFewest);
        edges.of(17, "c in 10 at least: 0 and 10", EdgesOfChancesTest::lureLeastAndMost);
        edges.of(17, "NONE", EdgesOfChancesTest::lureNone);
        edges.of(17, "NONE (out, too)", EdgesOfChancesTest::lureOut);
        edges.of(17, "it ERRS (its LEADER does)", EdgesOfChancesTest::lureByItsLeader);
    }

    private static void whatItWas(Edges edges) {
        edges.of(18, "BAD (bits of nobody)", EdgesOfChancesTest::couldSet);
        edges.of(18, "bit k for ORDER k, 1 .. 4", EdgesOfChancesTest::couldBits);
        edges.of(18, "just that set could fall: none, all, who is out", EdgesOfChancesTest::couldNoneAndAll);
        edges.of(19, "BAD", EdgesOfChancesTest::likeliestSet);
        edges.of(19, "of several the least", EdgesOfChancesTest::likeliestLeast);
        edges.of(19, "NONE: none", EdgesOfChancesTest::likeliestNone);
        edges.of(19, "that by which it is likeliest: each of 1 .. 4", EdgesOfChancesTest::likeliestOfEach);
    }

    private static void nothingIsChanged(Edges edges) {
        edges.of(12, "(Nothing is changed.)", due -> Refusals.unmarked(due, "falls(2, 0, 1)", x -> x.falls(BARE, 0, 1)));
        edges.of(13, "(Nothing is changed.)", due -> Refusals.unmarked(due, "many(3, 6, 0)", x -> x.many(SHOWN, 6, 0)));
        edges.of(14, "(Nothing is changed.)", due -> Refusals.unmarked(due, "stays(0, 123412341, 0)", x -> x.stays(0, 123412341, 0)));
        edges.of(15, "(Nothing is changed.)", due -> Refusals.unmarked(due, "left(443, 1)", x -> x.left(443, 1)));
        edges.of(16, "(Nothing is changed.)", due -> Refusals.unmarked(due, "best(3)", x -> x.best(3)));
        edges.of(17, "(Nothing is changed.)", due -> Refusals.unmarked(due, "lure(0, 10)", x -> x.lure(0, 10)));
        edges.of(18, "(Nothing is changed.)", due -> Refusals.unmarked(due, "could(1)", x -> x.could(1)));
        edges.of(19, "(Nothing is changed.)", due -> Refusals.unmarked(due, "likeliest(1)", x -> x.likeliest(1)));
    }

    // ---- help

    private static void falls(Due due, SimonSays x, int order, int set, long upper, long lower) {
        due.is("falls(" + order + ", " + set + ", 0)", x.falls(order, set, 0), upper);
        due.is("falls(" + order + ", " + set + ", 1)", x.falls(order, set, 1), lower);
    }

    private static void many(Due due, SimonSays x, int order, int n, long upper, long lower) {
        due.is("many(" + order + ", " + n + ", 0)", x.many(order, n, 0), upper);
        due.is("many(" + order + ", " + n + ", 1)", x.many(order, n, 1), lower);
    }

    private static void stays(Due due, SimonSays x, int k, int row, long upper, long lower) {
        due.is("stays(" + k + ", " + row + ", 0)", x.stays(k, row, 0), upper);
        due.is("stays(" + k + ", " + row + ", 1)", x.stays(k, row, 1), lower);
    }

    private static void left(Due due, SimonSays x, int row, long upper, long lower) {
        due.is("left(" + row + ", 0)", x.left(row, 0), upper);
        due.is("left(" + row + ", 1)", x.left(row, 1), lower);
    }

    private static SimonSays withStreak(String text, int streak) {
        SimonSays x = Due.told(text);
        for (int n = 0; n < streak; n++) {
            x.call(SAID);
        }
        return x;
    }

    /** Children of SLIP 9 all fall by SHOWN; of them just these come back. */
    private static SimonSays justIn(String text, int set) {
        SimonSays x = Due.told(text);
        x.call(SHOWN);
        for (int k = 0; k < x.count(0); k++) {
            if ((set >> k & 1) == 1) {
                x.comesBack(k);
            }
        }
        if (x.now(0) != set) {
            throw new IllegalStateException("the test's own way does not lead to " + set);
        }
        return x;
    }

    /** FOUR, with 3 out: THE LOT draws 8 for 0 and 6 for 3. */
    private static SimonSays threeIsOut() {
        SimonSays x = Due.told(FOUR);
        x.call(BARE);
        if (x.now(0) != 7) {
            throw new IllegalStateException("the test's own way does not lead there");
        }
        return x;
    }

    // ---- promise 12

    private static void fallsOrder(Due due) {
        for (int order : NO_ORDER) {
            Refusals.bad(due, "falls(" + order + ", 0, 0)", x -> x.falls(order, 0, 0));
        }
    }

    private static void fallsSet(Due due) {
        for (int set : NO_SET) {
            Refusals.bad(due, "falls(2, " + set + ", 0)", x -> x.falls(BARE, set, 0));
        }
        for (int told = 0; told <= 6; told++) {
            SimonSays x = Due.told(ONE.repeat(told));
            for (int order = SAID; order <= QUICK; order++) {
                due.is("falls(.., " + (1 << told) + ", 0) of " + told, x.falls(order, 1 << told, 0), -1);
                due.is("falls(.., " + ((2 << told) - 1) + ", 1) of " + told, x.falls(order, (2 << told) - 1, 1), -1);
                due.isTrue("falls(.., " + ((1 << told) - 1) + ", 1) of " + told + " is taken", x.falls(order, (1 << told) - 1, 1) >= 1);
            }
        }
    }

    private static void fallsWhat(Due due) {
        for (int what : NO_HALF) {
            Refusals.bad(due, "falls(2, 0, " + what + ")", x -> x.falls(BARE, 0, what));
        }
    }

    private static void justNoneFalls(Due due) {
        for (int order = SAID; order <= QUICK; order++) {
            falls(due, new SimonSays(), order, 0, 1, 1);
            falls(due, Refusals.nobodyIn(), order, 0, 1, 1);
        }
        falls(due, Due.told(FOUR), BARE, 0, 7, 50);
        falls(due, Due.told(FOUR), SAID, 0, 1, 1);
    }

    private static void justAllFall(Due due) {
        falls(due, Due.told(CHAIN), BARE, 63, 9, 10);
        falls(due, Due.told(CHAIN), SHOWN, 63, 1, 1);
        falls(due, Due.told("child 9 9 9;".repeat(6)), SHOWN, 63, 1, 1);
        falls(due, Due.told("child 5 1 9;".repeat(6)), BARE, 63, 1, 64);
        falls(due, Due.told("child 5 1 9;".repeat(6)), QUICK, 63, 1, 1000000);
        falls(due, Due.told(FOUR), SAID, 15, 0, 1);
    }

    private static void halfAGroupFalls(Due due) {
        for (int set = 0; set < 63; set++) {
            falls(due, Due.told(CHAIN), BARE, set, set == 0 ? 1 : 0, set == 0 ? 10 : 1);
        }
        SimonSays x = Due.told(FOUR);
        for (int set : new int[] {1, 2, 3, 4, 5, 6, 9, 10, 11, 12, 13, 14}) {
            falls(due, x, BARE, set, 0, 1);
        }
    }

    private static void whoIsOutFalls(Due due) {
        SimonSays x = threeIsOut();
        for (int order = SAID; order <= QUICK; order++) {
            falls(due, x, order, 8, 0, 1);
            falls(due, x, order, 15, 0, 1);
        }
        falls(due, x, BARE, 7, 3, 10);
        falls(due, x, BARE, 0, 7, 10);
        SimonSays nobody = Refusals.nobodyIn();
        for (int set = 1; set < 8; set++) {
            falls(due, nobody, SHOWN, set, 0, 1);
        }
        // of a chain a link is out: who copied it falls by itself
        SimonSays chain = justIn(CHAIN, 53);
        falls(due, chain, QUICK, 4, 9, 1000);
        falls(due, chain, QUICK, 48, 9, 1000);
        falls(due, chain, QUICK, 16, 0, 1);
    }

    private static void allSetsAre1(Due due) {
        SimonSays x = Due.told("child 1 3 9;child 2 1 9;child 3 7 1;child 4 9 9;child 5 1 9;child 6 3 4;");
        for (int order = SAID; order <= QUICK; order++) {
            long sum = 0;
            for (int set = 0; set < 64; set++) {
                sum += x.falls(order, set, 0) * (1000000 / x.falls(order, set, 1));
            }
            due.is("millionths of all sets by " + order, sum, 1000000);
        }
    }

    private static void fallsInLeastTerms(Due due) {
        falls(due, Due.told("child 0 2 9;"), BARE, 1, 0, 1);
        falls(due, Due.told("child 0 2 9;"), BARE, 0, 1, 1);
        falls(due, Due.told("child 0 2 9;"), QUICK, 1, 1, 5);
        falls(due, Due.told("child 0 5 9;"), QUICK, 1, 1, 2);
        falls(due, Due.told("child 0 4 9;child 0 5 9;"), QUICK, 3, 1, 5);
        SimonSays six = Due.told("child 0 1 9;child 0 3 9;child 0 7 9;child 0 9 9;child 0 1 9;child 0 7 9;");
        falls(due, six, QUICK, 63, 1 * 3 * 7 * 9 * 1 * 7, 1000000);
        falls(due, six, QUICK, 0, 9 * 7 * 3 * 1 * 9 * 3, 1000000);
    }

    // ---- promise 13

    private static void manyOrder(Due due) {
        for (int order : NO_ORDER) {
            Refusals.bad(due, "many(" + order + ", 0, 0)", x -> x.many(order, 0, 0));
        }
    }

    private static void manyNumber(Due due) {
        for (int n : new int[] {-1, 7, 8, MIN, MAX}) {
            Refusals.bad(due, "many(2, " + n + ", 0)", x -> x.many(BARE, n, 0));
        }
    }

    private static void manyWhat(Due due) {
        for (int what : NO_HALF) {
            Refusals.bad(due, "many(2, 0, " + what + ")", x -> x.many(BARE, 0, what));
        }
    }

    private static void noneAndAllSix(Due due) {
        SimonSays chain = Due.told(CHAIN);
        many(due, chain, BARE, 0, 1, 10);
        many(due, chain, BARE, 6, 9, 10);
        many(due, chain, SHOWN, 0, 0, 1);
        many(due, chain, SHOWN, 6, 1, 1);
        for (int n = 1; n <= 5; n++) {
            many(due, chain, BARE, n, 0, 1);
        }
        SimonSays six = Due.told("child 5 1 9;".repeat(6));
        many(due, six, BARE, 0, 1, 64);
        many(due, six, BARE, 6, 1, 64);
        many(due, six, BARE, 3, 5, 16);
        many(due, six, SAID, 0, 1, 1);
        many(due, six, SAID, 6, 0, 1);
    }

    private static void moreThanThereAre(Due due) {
        for (int n = 0; n <= 6; n++) {
            many(due, new SimonSays(), BARE, n, n == 0 ? 1 : 0, 1);
            many(due, Refusals.nobodyIn(), SHOWN, n, n == 0 ? 1 : 0, 1);
        }
        for (int told = 1; told <= 5; told++) {
            for (int n = 0; n <= 6; n++) {
                many(due, Due.told("child 9 0 9;".repeat(told)), SHOWN, n, n == told ? 1 : 0, 1);
            }
        }
        SimonSays x = threeIsOut();
        many(due, x, BARE, 3, 3, 10);
        many(due, x, BARE, 4, 0, 1);
        many(due, x, BARE, 1, 0, 1);
    }

    private static void allNumbersAre1(Due due) {
        SimonSays x = Due.told("child 1 3 9;child 2 1 9;child 3 7 1;child 4 9 9;child 5 1 9;child 6 3 4;");
        for (int order = SAID; order <= QUICK; order++) {
            long sum = 0;
            for (int n = 0; n <= 6; n++) {
                sum += x.many(order, n, 0) * (1000000 / x.many(order, n, 1));
            }
            due.is("millionths of all numbers by " + order, sum, 1000000);
        }
    }

    private static void manyInLeastTerms(Due due) {
        SimonSays x = Due.told("child 0 5 9;child 0 5 9;");
        many(due, x, QUICK, 0, 1, 4);
        many(due, x, QUICK, 1, 1, 2);
        many(due, x, QUICK, 2, 1, 4);
        SimonSays six = Due.told("child 0 1 9;child 0 3 9;child 0 7 9;child 0 9 9;child 0 1 9;child 0 7 9;");
        many(due, six, QUICK, 6, 1323, 1000000);
        many(due, six, QUICK, 0, 5103, 1000000);
    }

    // ---- promise 14

    private static void staysChild(Due due) {
        for (int k : NO_CHILD) {
            Refusals.bad(due, "stays(" + k + ", 1, 0)", x -> x.stays(k, 1, 0));
            Refusals.bad(due, "stays(" + k + ", 0, 1)", x -> x.stays(k, 0, 1));
        }
        for (int told = 0; told <= 6; told++) {
            due.is("stays(" + told + ", 0, 0) of " + told, Due.told(ONE.repeat(told)).stays(told, 0, 0), -1);
        }
    }

    private static void staysRow(Due due) {
        for (int row : NO_ROW) {
            Refusals.bad(due, "stays(0, " + row + ", 0)", x -> x.stays(0, row, 0));
        }
        // none at each place of nine
        SimonSays x = Due.told(FOUR);
        for (int place = 1; place <= 100000000; place *= 10) {
            for (int figure = 0; figure <= 9; figure++) {
                int row = 111111111 + (figure - 1) * place;
                boolean fewer = figure == 0 && place == 100000000;
                boolean taken = figure >= 1 && figure <= 4 || fewer;
                due.is("stays(0, " + row + ", 0) is taken", x.stays(0, row, 0) >= 0 ? 1 : 0, taken ? 1 : 0);
                due.is("stays(0, " + row + ", 1) is taken", x.stays(0, row, 1) >= 1 ? 1 : 0, taken ? 1 : 0);
            }
        }
    }

    private static void staysNine(Due due) {
        SimonSays x = Due.told(FOUR);
        stays(due, x, 0, 111111111, 1, 1);
        stays(due, x, 3, 444444444, 1, 1000000000);
        for (int row : new int[] {1111111111, 1111111112, 2111111111, 1444444444, 1000000000, 999999999, MAX}) {
            Refusals.bad(due, "stays(0, " + row + ", 0)", y -> y.stays(0, row, 0));
            Refusals.bad(due, "stays(0, " + row + ", 1)", y -> y.stays(0, row, 1));
        }
    }

    private static void staysWhat(Due due) {
        for (int what : NO_HALF) {
            Refusals.bad(due, "stays(0, 1, " + what + ")", x -> x.stays(0, 1, what));
        }
        due.is("stays(3, 1, 2), out", threeIsOut().stays(3, 1, 2), -1);
    }

    private static void staysByNone(Due due) {
        SimonSays x = Due.told(CHAIN);
        for (int k = 0; k < 6; k++) {
            stays(due, x, k, 0, 1, 1);
        }
    }

    private static void staysFirstIsHighest(Due due) {
        SimonSays x = Due.told(FOUR);
        stays(due, x, 0, 1, 1, 1);
        stays(due, x, 0, 2, 7, 10);
        stays(due, x, 0, 3, 1, 2);
        stays(due, x, 0, 4, 4, 5);
        stays(due, x, 0, 12, 3, 5);
        stays(due, x, 0, 21, 7, 10);
        stays(due, x, 0, 43, 8, 25);
        stays(due, x, 0, 34, 2, 5);
    }

    private static void staysOut(Due due) {
        SimonSays x = threeIsOut();
        for (int row : new int[] {0, 1, 4, 12, 111111111, 444444444}) {
            stays(due, x, 3, row, 0, 1);
        }
        for (int row : NO_ROW) {
            due.is("stays(3, " + row + ", 0), out", x.stays(3, row, 0), -1);
        }
        stays(due, x, 2, 2, 7, 10);
        x.comesBack(3);
        stays(due, x, 3, 0, 1, 1);
    }

    private static void staysStreak(Due due) {
        SimonSays x = Due.told("child 0 0 9;");
        stays(due, x, 0, 111111112, 1, 5);
        stays(due, x, 0, 144444442, 1, 5);
        stays(due, withStreak("child 0 0 9;", 1), 0, 111111112, 1, 10);
        stays(due, withStreak("child 0 0 9;", 8), 0, 12, 1, 10);
        // not 10: it is 9 at most
        stays(due, withStreak("child 0 0 9;", 2), 0, 111111112, 1, 10);
        stays(due, withStreak("child 0 0 9;", 9), 0, 111111112, 1, 10);
        stays(due, withStreak("child 0 0 9;", 9), 0, 13, 0, 1);
        // 0 behind BARE and behind SHOWN
        stays(due, withStreak("child 0 0 9;", 5), 0, 22, 1, 2);
        stays(due, withStreak("child 0 0 9;", 5), 0, 32, 3, 10);
        stays(due, withStreak("child 0 0 9;", 5), 0, 212, 9, 20);
    }

    private static void staysByItsLeader(Due due) {
        SimonSays x = Due.told(FOUR);
        for (int k = 0; k < 3; k++) {
            stays(due, x, k, 2, 7, 10);
            stays(due, x, k, 4, 4, 5);
        }
        // its LEADER is out: for itself
        SimonSays y = justIn("child 9 9 9;child 9 3 0;child 9 1 1;", 6);
        stays(due, y, 1, 4, 7, 10);
        stays(due, y, 2, 4, 7, 10);
        SimonSays z = justIn("child 9 9 9;child 9 3 0;child 9 1 1;", 5);
        stays(due, z, 2, 4, 9, 10);
        stays(due, z, 0, 4, 1, 10);
    }

    private static void staysInLeastTerms(Due due) {
        stays(due, Due.told("child 9 0 9;"), 0, 3, 0, 1);
        stays(due, Due.told("child 9 0 9;"), 0, 333333333, 0, 1);
        stays(due, Due.told("child 0 0 9;"), 0, 222222222, 1, 1);
        stays(due, Due.told("child 5 5 9;"), 0, 444444444, 1, 512);
        stays(due, Due.told("child 5 3 9;"), 0, 444444444, 40353607, 1000000000);
        stays(due, Due.told("child 5 1 9;"), 0, 444444444, 387420489, 1000000000);
    }

    // ---- promises 15 and 16

    private static void leftRow(Due due) {
        for (int row : NO_ROW) {
            Refusals.bad(due, "left(" + row + ", 0)", x -> x.left(row, 0));
        }
        for (int row : new int[] {1111, 1112, 2111, 4444, 1000, 999, 11111, 111111111, 1111111111, MAX}) {
            Refusals.bad(due, "left(" + row + ", 1)", x -> x.left(row, 1));
        }
    }

    private static void leftRowsTaken(Due due) {
        for (int row = 0; row <= 1200; row++) {
            boolean taken = row == 0 || Integer.toString(row).matches("[1-4]{1,3}");
            due.is("left(" + row + ", 0), no children", new SimonSays().left(row, 0), taken ? 0 : -1);
            due.is("left(" + row + ", 1), no children", new SimonSays().left(row, 1), taken ? 1 : -1);
        }
    }

    private static void leftWhat(Due due) {
        for (int what : NO_HALF) {
            Refusals.bad(due, "left(1, " + what + ")", x -> x.left(1, what));
        }
    }

    private static void leftByNone(Due due) {
        left(due, Due.told(""), 0, 0, 1);
        left(due, Due.told(ONE), 0, 1, 1);
        left(due, Due.told(ONE + ONE), 0, 0, 1);
        left(due, Due.told(ONE + "child 1 2 0;"), 0, 0, 1);
        for (int set = 0; set < 64; set++) {
            left(due, justIn("child 9 9 9;".repeat(6), set), 0, Integer.bitCount(set) == 1 ? 1 : 0, 1);
        }
    }

    private static void leftNever(Due due) {
        for (int row : new int[] {1, 4, 23, 444}) {
            left(due, new SimonSays(), row, 0, 1);
            left(due, Refusals.nobodyIn(), row, 0, 1);
            left(due, Due.told(CHAIN), row, 0, 1);
            // two pairs: none of them is ever alone
            left(due, Due.told("child 5 5 9;child 5 5 0;child 5 5 9;child 5 5 2;"), row, 0, 1);
        }
        // all who could fall surely do, or never
        left(due, Due.told("child 9 9 9;child 9 9 9;"), 3, 0, 1);
        left(due, Due.told("child 9 9 9;child 9 9 9;"), 111, 0, 1);
        // with a pair the third can be the one
        left(due, Due.told("child 9 0 9;child 9 0 0;child 0 0 9;"), 3, 4, 5);
        // with a link out, who copied it is by itself
        left(due, justIn("child 9 9 9;child 9 9 0;child 9 0 1;", 5), 4, 9, 10);
        left(due, justIn("child 9 9 9;child 9 9 0;child 9 0 1;", 6), 4, 0, 1);
    }

    private static void leftGreatest(Due due) {
        // six LEADERS and three ORDERS: each of the two is below 10^18, and halved
        long f = 271;
        left(due, Due.told("child 1 1 9;".repeat(6)), 444, 6 * 729 * f * f * f * f * f / 2, 500000000000000000L);
        left(due, Due.told("child 1 1 9;".repeat(5)), 444, 5 * 729 * f * f * f * f / 5, 200000000000000L);
        left(due, Due.told("child 5 9 9;".repeat(6)), 4, 6 * 9 * 9 * 9 * 9 * 9 / 2, 500000);
        left(due, Due.told("child 5 5 9;".repeat(6)), 444, 6L * 7 * 7 * 7 * 7 * 7 / 2, 1 << 17);
        left(due, Due.told("child 5 0 9;".repeat(6)), 444, 0, 1);
    }

    private static void bestBad(Due due) {
        for (int n : new int[] {-1, 4, 5, 9, 10, 16, 32, MIN, MAX}) {
            Refusals.bad(due, "best(" + n + ")", x -> x.best(n));
        }
    }

    private static void bestOfEachLength(Due due) {
        SimonSays x = Due.told("child 0 9 9;child 8 0 9;");
        due.is("best(0)", x.best(0), 0);
        due.is("best(1)", x.best(1), 4);
        due.is("best(2)", x.best(2), 44);
        due.is("best(3)", x.best(3), 444);
        due.is("best(0), no children", new SimonSays().best(0), 0);
        due.is("best(0), all out", Refusals.nobodyIn().best(0), 0);
        due.is("best(0) of six", Refusals.full().best(0), 0);
    }

    private static void bestLeastOfSeveral(Due due) {
        // by no row is one ever alone, or by each one is
        SimonSays[] alike = {new SimonSays(), Refusals.nobodyIn(), Due.told(CHAIN), Due.told("child 0 0 9;")};
        for (SimonSays x : alike) {
            due.is("best(1)", x.best(1), 1);
            due.is("best(2)", x.best(2), 11);
            due.is("best(3)", x.best(3), 111);
        }
        // BARE by 4 in 10 and SHOWN by 6 in 10 leave one of two as likely
        SimonSays two = Due.told("child 4 0 9;child 4 0 9;");
        due.is("left(2, 0)", two.left(2, 0), 12);
        due.is("left(3, 0)", two.left(3, 0), 12);
        due.is("best(1)", two.best(1), 2);
        // SHOWN and QUICK are as likely
        SimonSays quick = Due.told("child 3 5 9;child 3 5 9;");
        due.is("left(3, 0)", quick.left(3, 0), 1);
        due.is("left(4, 0)", quick.left(4, 0), 1);
        due.is("best(1)", quick.best(1), 3);
    }

    private static void bestLastRow(Due due) {
        // the other ORDERS can fell the second, too: QUICK alone just the first
        SimonSays x = Due.told("child 0 9 9;child 8 0 9;");
        due.is("best(3)", x.best(3), 444);
        left(due, x, 444, 999, 1000);
        left(due, x, 443, 3, 500);
        left(due, x, 222, 124, 125);
    }

    private static void bestOfAllRows(Due due) {
        String[] texts = {"child 0 3 9;child 8 1 9;child 4 5 9;", "child 1 0 9;child 1 0 9;child 1 4 1;", "child 7 6 9;child 2 1 9;child 5 5 0;",
            "child 0 1 9;child 0 1 9;child 0 2 9;child 0 2 9;", "child 2 0 9;child 3 0 9;child 3 0 9;child 9 9 9;child 1 1 9;child 0 4 9;"};
        for (String text : texts) {
            for (int streak = 0; streak <= 9; streak += 3) {
                SimonSays x = withStreak(text, streak);
                for (int n = 1; n <= 3; n++) {
                    due.is("best(" + n + "), STREAK " + streak + ", " + text, x.best(n), bestByAllRows(x, n));
                }
            }
        }
    }

    /** LEFT of each row of n ORDERS, brought over 10^18, by the numbers of the rows. */
    private static int bestByAllRows(SimonSays x, int n) {
        int best = 0;
        long most = -1;
        for (int row = 1; row <= 444; row++) {
            if (Integer.toString(row).matches("[1-4]{" + n + "}")) {
                long chance = x.left(row, 0) * (1000000000000000000L / x.left(row, 1));
                if (chance > most) {
                    most = chance;
                    best = row;
                }
            }
        }
        return best;
    }

    // ---- promise 17

    private static void lureChild(Due due) {
        for (int k : NO_CHILD) {
            Refusals.bad(due, "lure(" + k + ", 5)", x -> x.lure(k, 5));
        }
        for (int told = 0; told <= 6; told++) {
            due.is("lure(" + told + ", 0) of " + told, Due.told(ONE.repeat(told)).lure(told, 0), -1);
        }
    }

    private static void lureC(Due due) {
        for (int c : new int[] {-1, 11, 12, MIN, MAX}) {
            Refusals.bad(due, "lure(0, " + c + ")", x -> x.lure(0, c));
        }
        due.is("lure(3, 11), out", threeIsOut().lure(3, 11), -1);
        due.is("lure(3, -1), out", threeIsOut().lure(3, -1), -1);
    }

    private static void lureFewest(Due due) {
        for (int slip = 0; slip <= 9; slip++) {
            for (int streak = 0; streak <= 9; streak++) {
                SimonSays x = withStreak("child " + slip + " 5 9;", streak);
                for (int c = 0; c <= 10; c++) {
                    int fewest = Math.max(0, c - slip - streak);
                    boolean can = c <= slip + 9;
                    due.is("lure(0, " + c + "), SLIP " + slip + ", STREAK " + streak, x.lure(0, c), can ? fewest : -9);
                }
            }
        }
    }

    private static void lureLeastAndMost(Due due) {
        SimonSays x = Due.told("child 0 0 9;child 1 0 9;child 9 0 9;");
        due.is("lure(0, 0)", x.lure(0, 0), 0);
        due.is("lure(0, 1)", x.lure(0, 1), 1);
        due.is("lure(0, 9)", x.lure(0, 9), 9);
        due.is("lure(1, 10)", x.lure(1, 10), 9);
        due.is("lure(2, 9)", x.lure(2, 9), 0);
        due.is("lure(2, 10)", x.lure(2, 10), 1);
    }

    private static void lureNone(Due due) {
        due.is("lure(0, 10), STREAK 0", Due.told("child 0 0 9;").lure(0, 10), -9);
        due.is("lure(0, 10), STREAK 9", withStreak("child 0 0 9;", 9).lure(0, 10), -9);
        due.is("lure(0, 10), SLIP 1, STREAK 9", withStreak("child 1 0 9;", 9).lure(0, 10), 0);
    }

    private static void lureOut(Due due) {
        SimonSays x = threeIsOut();
        for (int c = 0; c <= 10; c++) {
            due.is("lure(3, " + c + ")", x.lure(3, c), -9);
        }
        due.is("lure(0, 0), all out", Refusals.nobodyIn().lure(0, 0), -9);
        x.comesBack(3);
        due.is("lure(3, 0), back", x.lure(3, 0), 0);
    }

    private static void lureByItsLeader(Due due) {
        SimonSays x = Due.told("child 0 9 9;child 9 9 0;child 9 9 1;");
        for (int k = 0; k < 3; k++) {
            due.is("lure(" + k + ", 9)", x.lure(k, 9), 9);
            due.is("lure(" + k + ", 10)", x.lure(k, 10), -9);
        }
        SimonSays y = justIn("child 9 9 9;child 8 9 0;child 0 0 1;", 6);
        due.is("lure(2, 10), 0 is out: 1 leads", y.lure(2, 10), 2);
        y.comesBack(0);
        due.is("lure(2, 10), 0 leads", y.lure(2, 10), 1);
    }

    // ---- promises 18 and 19

    private static void couldSet(Due due) {
        for (int set : NO_SET) {
            Refusals.bad(due, "could(" + set + ")", x -> x.could(set));
        }
        for (int told = 0; told <= 6; told++) {
            SimonSays x = Due.told(ONE.repeat(told));
            due.is("could(" + (1 << told) + ") of " + told, x.could(1 << told), -1);
            due.is("could(" + ((2 << told) - 1) + ") of " + told, x.could((2 << told) - 1), -1);
            due.isTrue("could(" + ((1 << told) - 1) + ") of " + told + " is taken", x.could((1 << told) - 1) >= 0);
        }
    }

    private static void couldBits(Due due) {
        SimonSays never = Due.told("child 0 0 9;");
        due.is("could(0), ERRS 0 0 2 0", never.could(0), 30);
        due.is("could(1), ERRS 0 0 2 0", never.could(1), 8);
        SimonSays quick = Due.told("child 0 1 9;");
        due.is("could(1), ERRS 0 0 2 1", quick.could(1), 24);
        SimonSays bare = Due.told("child 1 0 9;");
        due.is("could(1), ERRS 0 1 3 0", bare.could(1), 12);
        SimonSays surely = Due.told("child 8 9 9;");
        due.is("could(1), ERRS 0 8 10 9", surely.could(1), 28);
        due.is("could(0), ERRS 0 8 10 9", surely.could(0), 22);
        SimonSays both = withStreak("child 9 0 9;", 1);
        due.is("could(0), ERRS 0 10 10 0", both.could(0), 18);
        due.is("could(1), ERRS 0 10 10 0", both.could(1), 12);
    }

    private static void couldNoneAndAll(Due due) {
        due.is("could(0), no children", new SimonSays().could(0), 30);
        due.is("could(0), all out", Refusals.nobodyIn().could(0), 30);
        due.is("could(7), all out", Refusals.nobodyIn().could(7), 0);
        due.is("could(63) of a chain", Due.told(CHAIN).could(63), 28);
        due.is("could(62) of a chain", Due.told(CHAIN).could(62), 0);
        due.is("could(63) of six", Due.told("child 9 9 9;".repeat(6)).could(63), 28);
        SimonSays x = threeIsOut();
        due.is("could(8), it is out", x.could(8), 0);
        due.is("could(15), one of it is out", x.could(15), 0);
        due.is("could(7)", x.could(7), 28);
    }

    private static void likeliestSet(Due due) {
        for (int set : NO_SET) {
            Refusals.bad(due, "likeliest(" + set + ")", x -> x.likeliest(set));
        }
        for (int told = 0; told <= 6; told++) {
            SimonSays x = Due.told(ONE.repeat(told));
            due.is("likeliest(" + (1 << told) + ") of " + told, x.likeliest(1 << told), -1);
            due.is("likeliest(" + ((2 << told) - 1) + ") of " + told, x.likeliest((2 << told) - 1), -1);
            due.isTrue("likeliest(" + ((1 << told) - 1) + ") of " + told + " is one", x.likeliest((1 << told) - 1) >= 1);
        }
    }

    private static void likeliestLeast(Due due) {
        due.is("likeliest(0), all four as likely", new SimonSays().likeliest(0), 1);
        due.is("likeliest(0), all out", Refusals.nobodyIn().likeliest(0), 1);
        due.is("likeliest(0), ERRS 0 0 2 0", Due.told("child 0 0 9;").likeliest(0), 1);
        due.is("likeliest(1), SHOWN as QUICK", Due.told("child 4 6 9;").likeliest(1), 3);
        due.is("likeliest(1), BARE as SHOWN", withStreak("child 9 0 9;", 1).likeliest(1), 2);
        // 4 by 6 and 6 by 4 in 10: of two just one falls as likely
        SimonSays two = Due.told("child 4 4 9;child 4 4 9;");
        due.is("likeliest(1), BARE as SHOWN as QUICK", two.likeliest(1), 2);
    }

    private static void likeliestNone(Due due) {
        due.is("likeliest(8), it is out", threeIsOut().likeliest(8), -9);
        due.is("likeliest(15), one of it is out", threeIsOut().likeliest(15), -9);
        due.is("likeliest(1), all out", Refusals.nobodyIn().likeliest(1), -9);
        due.is("likeliest(1) of a chain", Due.told(CHAIN).likeliest(1), -9);
        // one in ten is not none
        due.is("likeliest(1), by QUICK alone", Due.told("child 0 3 9;").likeliest(1), 4);
    }

    private static void likeliestOfEach(Due due) {
        due.is("likeliest(0)", Due.told(FOUR).likeliest(0), 1);
        due.is("likeliest(7)", Due.told(FOUR).likeliest(7), 2);
        due.is("likeliest(15)", Due.told(FOUR).likeliest(15), 3);
        due.is("likeliest(8)", Due.told(FOUR).likeliest(8), 4);
    }
}
