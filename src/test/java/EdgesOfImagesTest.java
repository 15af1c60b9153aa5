/** Promises 20 to 22 and 24 at their edges: rate, keep, back, trace. */
public final class EdgesOfImagesTest {
    private static final int SAID = 1;
    private static final int BARE = 2;
    private static final int SHOWN = 3;
    private static final int NO = -1000000;
    private static final int MIN = Integer.MIN_VALUE;
    private static final int MAX = Integer.MAX_VALUE;
    private static final String ONE = "child 1 2 9;";
    private static final int[] NO_CHILD = {-1, 6, 7, 9, 31, 32, 33, 64, MIN, MIN + 1, MAX};
    private static final int[] NO_IMAGE = {-1, 2, 3, 9, MIN, MAX};
    /** What each KIND adds to THE TRACE, with the bodies that it asks in turn. */
    private static final int[] TRACES = {1, 11, 101, 1011, 10101, 100001};

    public static void main(String[] args) {
        Edges edges = new Edges("EdgesOfImagesTest");
        rates(edges);
        traces(edges);
        keeping(edges);
        goingBack(edges);
        edges.finish(20, 21, 22, 24);
    }

    private static void rates(Edges edges) {
        edges.of(20, "KINDS 0 .. 5: NO: BAD", EdgesOfImagesTest::noSuchKind);
        edges.of(20, "NO: BAD: there is no such child", EdgesOfImagesTest::noSuchChild);
        edges.of(20, "CHILD its SLIP: 0 .. 9", EdgesOfImagesTest::rateChild);
        edges.of(20, "DREAMER up, and the STREAK: 0 .. 18", EdgesOfImagesTest::rateDreamer);
        edges.of(20, "WATCHER up less LATE: below 0, too", EdgesOfImagesTest::rateWatcher);
        edges.of(20, "RUNNER twice up: 0 .. 36", EdgesOfImagesTest::rateRunner);
        edges.of(20, "COPIER up, and how many COPY it: none, five", EdgesOfImagesTest::rateCopier);
        edges.of(20, "as told (in or out)", EdgesOfImagesTest::rateInOrOut);
        edges.of(20, "LISTENER up, and how many are in: none, six", EdgesOfImagesTest::rateListener);
    }

    private static void traces(Edges edges) {
        edges.of(24, "THE TRACE, 0 at first", EdgesOfImagesTest::traceAtFirst);
        edges.of(24, "as often as rate() asks that body: each once", EdgesOfImagesTest::traceEachOnce);
        edges.of(24, "THE TRACE: a refused rate() adds nothing", EdgesOfImagesTest::traceOfRefused);
        edges.of(24, "THE TRACE: no other call adds to it", EdgesOfImagesTest::traceOfOthers);
        edges.of(24, "THE TRACE goes on, as behind undo(), back()", EdgesOfImagesTest::traceGoesOn);
    }

    private static void keeping(Edges edges) {
        edges.of(21, "IMAGES 0, 1: BAD", EdgesOfImagesTest::keepBad);
        edges.of(21, "how many are in: none .. six", EdgesOfImagesTest::keepHowMany);
        edges.of(21, "An IMAGE is kept: each by itself", EdgesOfImagesTest::keepEach);
        edges.of(21, "An IMAGE is kept: anew in place of the old", EdgesOfImagesTest::keepAnew);
        edges.of(21, "nothing else: what can be UNDONE stays", EdgesOfImagesTest::keepLeavesUndone);
    }

    private static void goingBack(Edges edges) {
        edges.of(22, "IMAGES 0, 1: BAD", EdgesOfImagesTest::backBad);
        edges.of(22, "STATE: none was kept", EdgesOfImagesTest::backNone);
        edges.of(22, "the first of these: BAD, STATE", EdgesOfImagesTest::backBadAheadOfState);
        edges.of(22, "how many are in: none .. six", EdgesOfImagesTest::backHowMany);
        edges.of(22, "who is in, the STREAK, THE LOT", EdgesOfImagesTest::backAll);
        edges.of(22, "nothing else", EdgesOfImagesTest::backNothingElse);
        edges.of(22, "nothing can be UNDONE behind back()", EdgesOfImagesTest::backNothingUndone);
        edges.of(22, "an IMAGE stays kept behind back()", EdgesOfImagesTest::backAgain);
        edges.of(22, "Read anew: IMAGES are gone", EdgesOfImagesTest::backReadAnew);
    }

    // ---- help

    private static int theLot(SimonSays x) {
        int lot = x.lot(0);
        x.lot(lot);
        return lot;
    }

    private static SimonSays withStreak(String text, int streak) {
        SimonSays x = Due.told(text);
        for (int n = 0; n < streak; n++) {
            x.call(SAID);
        }
        return x;
    }

    /** Six children of SLIP 9 who all fell by SHOWN; so many of them came back. */
    private static SimonSays soManyIn(int in) {
        SimonSays x = Due.told("child 9 9 9;".repeat(6));
        x.call(SHOWN);
        for (int k = 0; k < in; k++) {
            x.comesBack(5 - k);
        }
        return x;
    }

    // ---- promise 20

    private static void noSuchKind(Due due) {
        for (int kind : new int[] {-1, 6, 7, 9, MIN, MAX}) {
            Refusals.bad(due, "rate(" + kind + ", 0)", x -> x.rate(kind, 0), NO);
        }
    }

    private static void noSuchChild(Due due) {
        for (int kind = 0; kind <= 5; kind++) {
            int asked = kind;
            for (int k : NO_CHILD) {
                Refusals.bad(due, "rate(" + kind + ", " + k + ")", x -> x.rate(asked, k), NO);
            }
            for (int told = 0; told <= 6; told++) {
                due.is("rate(" + kind + ", " + told + ") of " + told, Due.told(ONE.repeat(told)).rate(kind, told), NO);
            }
        }
    }

    private static void rateChild(Due due) {
        for (int slip = 0; slip <= 9; slip++) {
            due.is("rate(0, 0)", withStreak("child " + slip + " 9 9;", 9).rate(0, 0), slip);
            due.is("rate(0, 5)", Due.told(ONE.repeat(5) + "child " + slip + " 9 9;").rate(0, 5), slip);
        }
    }

    private static void rateDreamer(Due due) {
        due.is("rate(1, 0), SLIP 0, STREAK 0", Due.told("child 0 9 9;").rate(1, 0), 0);
        due.is("rate(1, 0), SLIP 9, STREAK 0", Due.told("child 9 9 9;").rate(1, 0), 9);
        due.is("rate(1, 0), SLIP 9, STREAK 9", withStreak("child 9 9 9;", 9).rate(1, 0), 18);
        due.is("rate(1, 0), SLIP 9, more than 9", withStreak("child 9 9 9;", 12).rate(1, 0), 18);
        due.is("rate(1, 0), SLIP 0, STREAK 9", withStreak("child 0 9 9;", 9).rate(1, 0), 9);
    }

    private static void rateWatcher(Due due) {
        for (int slip = 0; slip <= 9; slip++) {
            for (int late = 0; late <= 9; late++) {
                due.is("rate(2, 0)", withStreak("child " + slip + " " + late + " 9;", 2).rate(2, 0), slip - late);
            }
        }
    }

    private static void rateRunner(Due due) {
        due.is("rate(3, 0), SLIP 0, STREAK 0", Due.told("child 0 9 9;").rate(3, 0), 0);
        due.is("rate(3, 0), SLIP 9, STREAK 9", withStreak("child 9 9 9;", 9).rate(3, 0), 36);
        due.is("rate(3, 0), SLIP 1, STREAK 2", withStreak("child 1 9 9;", 2).rate(3, 0), 6);
    }

    private static void rateCopier(Due due) {
        String five = "child 9 0 9;" + "child 0 9 0;".repeat(5);
        due.is("rate(4, 0), five copy it", Due.told(five).rate(4, 0), 14);
        due.is("rate(4, 5), none copies it", Due.told(five).rate(4, 5), -9);
        due.is("rate(4, 0) of one", Due.told("child 0 9 9;").rate(4, 0), -9);
        // it itself, not one who copies it: and who copies none copies nobody
        String chain = "child 0 0 9;child 0 0 0;child 0 0 1;child 0 0 2;child 0 0 3;child 0 0 4;";
        for (int k = 0; k < 6; k++) {
            due.is("rate(4, " + k + ") of a chain", Due.told(chain).rate(4, k), k < 5 ? 1 : 0);
        }
    }

    private static void rateInOrOut(Due due) {
        SimonSays nobody = Refusals.nobodyIn();
        due.is("rate(0, 0), out", nobody.rate(0, 0), 9);
        due.is("rate(1, 0), out", nobody.rate(1, 0), 9);
        due.is("rate(2, 0), out", nobody.rate(2, 0), 0);
        due.is("rate(3, 0), out", nobody.rate(3, 0), 18);
        due.is("rate(4, 0), both out", nobody.rate(4, 0), 1);
        due.is("rate(4, 1), both out", nobody.rate(4, 1), 1);
        due.is("rate(4, 2), none copies it", nobody.rate(4, 2), 0);
        nobody.comesBack(1);
        due.is("rate(4, 0), it is out", nobody.rate(4, 0), 1);
        due.is("rate(4, 1), who copies it is out", nobody.rate(4, 1), 1);
    }

    private static void rateListener(Due due) {
        for (int in = 0; in <= 6; in++) {
            due.is("rate(5, 0), in are " + in, soManyIn(in).rate(5, 0), 9 + in);
        }
        due.is("rate(5, 0) of one", Due.told("child 0 9 9;").rate(5, 0), 1);
    }

    // ---- promise 24

    private static void traceAtFirst(Due due) {
        due.is("trace()", new SimonSays().trace(), 0);
        due.is("trace(), told", Due.told(ONE).trace(), 0);
    }

    private static void traceEachOnce(Due due) {
        SimonSays all = Due.told(ONE);
        long sum = 0;
        for (int kind = 0; kind <= 5; kind++) {
            SimonSays x = Due.told(ONE);
            x.rate(kind, 0);
            due.is("trace() of " + kind, x.trace(), TRACES[kind]);
            x.rate(kind, 0);
            due.is("trace() of " + kind + " twice", x.trace(), 2 * TRACES[kind]);
            all.rate(kind, 0);
            sum += TRACES[kind];
            due.is("trace() of all up to " + kind, all.trace(), sum);
        }
        due.is("trace() again, it asks no body", all.trace(), 111226);
    }

    private static void traceOfRefused(Due due) {
        SimonSays x = Due.told(ONE);
        for (int kind = 0; kind <= 5; kind++) {
            x.rate(kind, 1);
            x.rate(kind, -1);
        }
        x.rate(-1, 0);
        x.rate(6, 0);
        due.is("trace()", x.trace(), 0);
        SimonSays none = new SimonSays();
        none.rate(0, 0);
        due.is("trace(), no children", none.trace(), 0);
    }

    private static void traceOfOthers(Due due) {
        SimonSays x = Refusals.amid();
        x.child(0, 0);
        x.errs(0, BARE);
        x.falls(BARE, 0, 0);
        x.many(BARE, 1, 0);
        x.stays(0, 12, 0);
        x.left(12, 0);
        x.best(2);
        x.lure(0, 5);
        x.could(0);
        x.likeliest(0);
        x.count(2);
        x.call(SAID);
        due.is("trace()", x.trace(), 10101);
    }

    private static void traceGoesOn(Due due) {
        SimonSays x = Due.told(ONE);
        x.keep(0);
        x.rate(1, 0);
        x.call(SAID);
        x.undo();
        due.is("trace() behind undo()", x.trace(), 11);
        x.back(0);
        due.is("trace() behind back()", x.trace(), 11);
        x.children();
        due.is("trace() behind children()", x.trace(), 11);
        Due.typed(x, ONE);
        x.children();
        x.rate(2, 0);
        due.is("trace() behind rate(2, 0)", x.trace(), 112);
    }

    // ---- promise 21

    private static void keepBad(Due due) {
        for (int image : NO_IMAGE) {
            Refusals.bad(due, "keep(" + image + ")", x -> x.keep(image));
        }
    }

    private static void keepHowMany(Due due) {
        for (int in = 0; in <= 6; in++) {
            due.is("keep(0), in are " + in, soManyIn(in).keep(0), in);
            due.is("keep(1), in are " + in, soManyIn(in).keep(1), in);
        }
        due.is("keep(0), no children", new SimonSays().keep(0), 0);
        due.is("keep(1), no children", new SimonSays().keep(1), 0);
    }

    private static void keepEach(Due due) {
        SimonSays x = soManyIn(1);
        x.keep(0);
        x.comesBack(0);
        due.is("back(1), 0 alone is kept", x.back(1), -2);
        due.is("keep(1)", x.keep(1), 2);
        x.comesBack(1);
        due.is("back(0)", x.back(0), 1);
        due.is("now(0)", x.now(0), 32);
        due.is("back(1)", x.back(1), 2);
        due.is("now(0)", x.now(0), 33);
        SimonSays y = soManyIn(1);
        y.keep(1);
        due.is("back(0), 1 alone is kept", y.back(0), -2);
        due.is("back(1)", y.back(1), 1);
    }

    private static void keepAnew(Due due) {
        SimonSays x = soManyIn(2);
        x.lot(5);
        x.keep(0);
        x.comesBack(0);
        x.call(SAID);
        x.lot(-6);
        due.is("keep(0)", x.keep(0), 3);
        x.lot(7);
        x.call(SHOWN);
        due.is("back(0)", x.back(0), 3);
        due.is("now(0)", x.now(0), 49);
        due.is("now(1)", x.now(1), 1);
        due.is("lot", theLot(x), -6);
    }

    private static void keepLeavesUndone(Due due) {
        SimonSays x = Refusals.full();
        due.is("keep(0)", x.keep(0), 6);
        due.is("now(3)", x.now(3), 12);
        due.is("undo()", x.undo(), 11);
        // an IMAGE is not undone with what it was kept behind
        due.is("back(0)", x.back(0), 6);
        due.is("now(1)", x.now(1), 9);
        SimonSays y = Due.told(ONE);
        y.call(SAID);
        y.keep(0);
        y.undo();
        due.is("now(1)", y.now(1), 0);
        y.back(0);
        due.is("now(1) behind back(0)", y.now(1), 1);
    }

    // ---- promise 22

    private static void backBad(Due due) {
        for (int image : NO_IMAGE) {
            Refusals.bad(due, "back(" + image + ")", x -> x.back(image));
        }
    }

    private static void backNone(Due due) {
        Refusals.refused(due, "back(0) of a new object", SimonSays::new, x -> x.back(0), Refusals.STATE);
        Refusals.refused(due, "back(1) of a new object", SimonSays::new, x -> x.back(1), Refusals.STATE);
        Refusals.refused(due, "back(0), 1 alone is kept", Refusals::amid, x -> x.back(0), Refusals.STATE);
        Refusals.refused(due, "back(0), read anew", () -> {
            SimonSays x = Refusals.nobodyIn();
            x.clear();
            Due.typed(x, ONE + ONE);
            x.children();
            x.call(SAID);
            return x;
        }, x -> x.back(0), Refusals.STATE);
    }

    private static void backBadAheadOfState(Due due) {
        for (int image : NO_IMAGE) {
            due.is("back(" + image + "), none is kept", Due.told(ONE).back(image), -1);
        }
    }

    private static void backHowMany(Due due) {
        for (int in = 0; in <= 6; in++) {
            SimonSays x = soManyIn(in);
            x.keep(1);
            if (in < 6) {
                x.comesBack(0);
            } else {
                x.call(SHOWN);
            }
            due.is("back(1), in were " + in, x.back(1), in);
            due.is("count(2)", x.count(2), in);
        }
        SimonSays none = new SimonSays();
        none.keep(0);
        due.is("back(0), no children", none.back(0), 0);
    }

    private static void backAll(Due due) {
        for (int lot : new int[] {MIN, -1, 0, 1, MAX}) {
            SimonSays x = withStreak("child 9 9 9;child 9 9 9;", 9);
            x.lot(lot);
            x.keep(0);
            int fell = x.call(BARE);
            int gone = theLot(x);
            x.comesBack(1);
            due.is("back(0)", x.back(0), 2);
            due.is("now(0)", x.now(0), 3);
            due.is("now(1)", x.now(1), 9);
            due.is("lot", theLot(x), lot);
            due.is("the same falls again", x.call(BARE), fell);
            due.is("and THE LOT goes on as it did", theLot(x), gone);
        }
        SimonSays first = Due.told(ONE);
        first.keep(0);
        first.lot(9);
        first.back(0);
        due.is("lot (1 at first)", theLot(first), 1);
    }

    private static void backNothingElse(Due due) {
        SimonSays x = Due.told(ONE + "child 4 3 0;little 1;");
        x.keep(0);
        x.rate(0, 0);
        Due.typed(x, "child 7");
        x.keep(1);
        x.call(SAID);
        due.is("back(0)", x.back(0), 2);
        due.is("trace()", x.trace(), 1);
        due.is("count(3)", x.count(3), 7);
        due.is("count(1)", x.count(1), 1);
        due.is("child(1, 0)", x.child(1, 0), 4);
        due.is("child(1, 2)", x.child(1, 2), 0);
        due.is("back(1), it is kept still", x.back(1), 2);
        Due.typed(x, " 6 9;");
        due.is("children()", x.children(), 1);
        due.is("child(0, 0)", x.child(0, 0), 7);
    }

    private static void backNothingUndone(Due due) {
        SimonSays x = Refusals.full();
        due.is("now(3)", x.now(3), 12);
        due.is("back(1)", x.back(1), 6);
        due.is("now(3) behind back(1)", x.now(3), 0);
        due.is("undo()", x.undo(), -2);
        due.is("now(1)", x.now(1), 9);
        x.call(BARE);
        due.is("now(3)", x.now(3), 1);
        due.is("undo()", x.undo(), 0);
        due.is("now(1)", x.now(1), 9);
        due.is("undo()", x.undo(), -2);
    }

    private static void backAgain(Due due) {
        SimonSays x = soManyIn(4);
        x.keep(0);
        for (int time = 0; time < 3; time++) {
            x.call(SHOWN);
            due.is("now(0)", x.now(0), 0);
            due.is("back(0)", x.back(0), 4);
            due.is("back(0) at once", x.back(0), 4);
            due.is("now(0)", x.now(0), 60);
        }
    }

    private static void backReadAnew(Due due) {
        SimonSays x = soManyIn(4);
        x.keep(0);
        x.keep(1);
        due.is("children() of no text", x.children(), 0);
        due.is("back(0)", x.back(0), -2);
        due.is("back(1)", x.back(1), -2);
        // by a text with a fault nothing is read anew
        SimonSays y = soManyIn(4);
        y.keep(0);
        y.type(63, 1);
        due.is("children()", y.children(), -10);
        due.is("back(0)", y.back(0), 4);
    }
}
