/**
 * Promises 5 to 11: child, now, errs, call, comesBack, undo, lot.
 *
 * THE LOT from 1 on draws 8 6 3 3 9 5 8 7 0 6 9 7 4 8.
 */
public final class OrdersTest {
    private static final Due DUE = new Due("OrdersTest");
    /** 1 and 2 follow 0; 3 is by itself, 4 follows it. */
    private static final String FIVE =
            "child 3 2 9;child 5 4 0;child 1 0 1;child 8 9 9;child 0 7 3;little 2;";

    public static void main(String[] args) {
        children();
        leaders();
        nowAndFair();
        errs();
        calling();
        fallingByTheLot();
        streaks();
        comingBack();
        undoing();
        undoingNoMoreThanTwelve();
        theLot();
        DUE.finish();
    }

    private static void children() {
        SimonSays x = Due.told(FIVE);
        long[][] want = {
            {3, 2, 9, 0, 1, 0}, {5, 4, 0, 0, 1, 0}, {1, 0, 1, 1, 1, 0}, {8, 9, 9, 0, 1, 3}, {0, 7, 3, 0, 1, 3}};
        for (int k = 0; k < 5; k++) {
            for (int what = 0; what < 6; what++) {
                DUE.is("child(" + k + ", " + what + ")", x.child(k, what), want[k][what]);
            }
            DUE.is("child(" + k + ", -1)", x.child(k, -1), -1);
            DUE.is("child(" + k + ", 6)", x.child(k, 6), -1);
        }
        DUE.is("child(5, 0)", x.child(5, 0), -1);
        DUE.is("child(-1, 0)", x.child(-1, 0), -1);
        DUE.is("child(9, 0)", x.child(9, 0), -1);
        DUE.is("child(32, 4)", x.child(32, 4), -1);
        DUE.is("child(min, 0)", x.child(Integer.MIN_VALUE, 0), -1);
        DUE.is("call(2)", x.call(2), 24);
        DUE.is("child(3, 4), out", x.child(3, 4), 0);
        DUE.is("child(3, 5), out", x.child(3, 5), -9);
        DUE.is("child(4, 5), out", x.child(4, 5), -9);
        DUE.is("child(3, 0), out", x.child(3, 0), 8);
        DUE.is("child(4, 2), out", x.child(4, 2), 3);
        DUE.is("child(2, 5)", x.child(2, 5), 0);
    }

    /** A child of a row of copiers leads just if the one ahead of it is out. */
    private static void leaders() {
        SimonSays x = Due.told("child 9 9 9;child 9 9 0;child 9 9 1;child 9 9 2;");
        x.lot(1);
        DUE.is("call(4)", x.call(4), 15);
        DUE.is("comesBack(3)", x.comesBack(3), 1);
        DUE.is("child(3, 5)", x.child(3, 5), 3);
        DUE.is("comesBack(1)", x.comesBack(1), 2);
        DUE.is("child(3, 5), 2 is out", x.child(3, 5), 3);
        DUE.is("child(1, 5)", x.child(1, 5), 1);
        DUE.is("comesBack(2)", x.comesBack(2), 3);
        DUE.is("child(3, 5), 2 is in", x.child(3, 5), 1);
        DUE.is("comesBack(0)", x.comesBack(0), 4);
        DUE.is("child(3, 5), all are in", x.child(3, 5), 0);
        DUE.is("child(3, 2)", x.child(3, 2), 2);
    }

    private static void nowAndFair() {
        SimonSays x = Due.told("child 0 9 9;child 9 0 9;little 0;");
        DUE.is("now(-1)", x.now(-1), -1);
        DUE.is("now(4)", x.now(4), -1);
        DUE.is("now(0)", x.now(0), 3);
        DUE.is("fair, all are in", x.now(2), 1);
        x.lot(1);
        DUE.is("call(4), draws 8 6", x.call(4), 1);
        DUE.is("now(0)", x.now(0), 2);
        DUE.is("now(1)", x.now(1), 1);
        DUE.is("fair, the little one is out", x.now(2), 0);
        DUE.is("now(3)", x.now(3), 1);
        DUE.is("call(2), draw 3", x.call(2), 2);
        DUE.is("fair, all are out", x.now(2), 1);
        DUE.is("comesBack(0)", x.comesBack(0), 1);
        DUE.is("fair, the little one is last", x.now(2), 1);
        DUE.is("now(3)", x.now(3), 3);

        SimonSays y = Due.told("child 9 9 9;child 0 0 9;little 0;little 1;");
        y.call(2);
        DUE.is("now(0)", y.now(0), 2);
        DUE.is("fair, all are little", y.now(2), 1);

        SimonSays z = Due.told("child 9 9 9;child 0 0 9;");
        z.call(2);
        DUE.is("now(0)", z.now(0), 2);
        DUE.is("fair, none is little", z.now(2), 1);
    }

    private static void errs() {
        SimonSays x = Due.told(FIVE);
        long[][] want = {{0, 3, 5, 2}, {0, 5, 7, 4}, {0, 1, 3, 0}, {0, 8, 10, 9}, {0, 0, 2, 7}};
        for (int k = 0; k < 5; k++) {
            for (int order = 1; order <= 4; order++) {
                DUE.is("errs(" + k + ", " + order + ")", x.errs(k, order), want[k][order - 1]);
            }
        }
        for (int n = 0; n < 4; n++) {
            x.call(1);
        }
        DUE.is("errs(0, 1), streak 4", x.errs(0, 1), 0);
        DUE.is("errs(0, 2), streak 4", x.errs(0, 2), 7);
        DUE.is("errs(0, 3), streak 4", x.errs(0, 3), 9);
        DUE.is("errs(0, 4), streak 4", x.errs(0, 4), 2);
        DUE.is("errs(1, 2), streak 4", x.errs(1, 2), 9);
        DUE.is("errs(1, 3), streak 4", x.errs(1, 3), 10);
        DUE.is("errs(2, 3), streak 4", x.errs(2, 3), 7);
        DUE.is("errs(3, 2), streak 4", x.errs(3, 2), 10);
        DUE.is("errs(0, 0)", x.errs(0, 0), -1);
        DUE.is("errs(0, 5)", x.errs(0, 5), -1);
        DUE.is("errs(0, -2)", x.errs(0, -2), -1);
        DUE.is("errs(5, 1)", x.errs(5, 1), -1);
        DUE.is("errs(-1, 1)", x.errs(-1, 1), -1);

        SimonSays y = Due.told("child 9 9 9;child 0 0 9;");
        y.call(2);
        DUE.is("errs of who is out", y.errs(0, 2), -2);
        DUE.is("errs of who is out, no such order", y.errs(0, 5), -1);
        DUE.is("errs of who is in", y.errs(1, 3), 2);
    }

    private static void calling() {
        SimonSays x = Due.told("child 9 9 9;");
        DUE.is("call(0)", x.call(0), -1);
        DUE.is("call(5)", x.call(5), -1);
        DUE.is("call(min)", x.call(Integer.MIN_VALUE), -1);
        DUE.is("nothing to undo", x.now(3), 0);
        DUE.is("the lot stays", x.lot(1), 1);
        DUE.is("call(1)", x.call(1), 0);
        DUE.is("the lot goes on, though nobody errs", x.lot(1), 1103527590);
        DUE.is("call(3)", x.call(3), 1);
        DUE.is("nobody is in", x.call(1), -2);
        DUE.is("nobody is in, no such order", x.call(9), -1);
        DUE.is("the lot stays by STATE", x.lot(1), 1103527590);
        DUE.is("two to undo", x.now(3), 2);
    }

    private static void fallingByTheLot() {
        SimonSays x = Due.told(FIVE);
        // leaders 0 (errs 3) draws 8, 3 (errs 8) draws 6: 4 falls with 3, though it never errs
        DUE.is("call(2)", x.call(2), 24);
        DUE.is("now(0)", x.now(0), 7);
        DUE.is("two draws", x.lot(-1770082073), -1770082073);
        // 0 draws 3 and errs just below its 5: those who copy it fall, too
        DUE.is("call(3), draw 3", x.call(3), 7);
        DUE.is("one draw", x.lot(1), 662824084);
        DUE.is("nobody", x.now(0), 0);

        // a draw as great as errs is no fall
        SimonSays y = Due.told("child 8 6 9;");
        DUE.is("call(2), draw 8, errs 8", y.call(2), 0);
        DUE.is("call(4), draw 6, errs 6", y.call(4), 0);
        y.lot(-1770082073);
        SimonSays z = Due.told("child 4 4 9;");
        z.lot(-1770082073);
        DUE.is("call(2), draw 3, errs 4", z.call(2), 1);

        // the draw of a lot below 0 is its upper bits, none of them a sign
        SimonSays w = Due.told("child 0 9 9;");
        w.lot(662824084);
        DUE.is("call(4), draw 3 of 50283", w.call(4), 1);
        DUE.is("undo()", w.undo(), 0);
        DUE.is("call(4), draw 9 of 63819", w.call(4), 0);

        // who copies one who is out draws for itself
        SimonSays v = Due.told("child 9 9 9;child 0 0 0;");
        v.lot(1);
        DUE.is("call(4), draw 8", v.call(4), 3);
        DUE.is("comesBack(1)", v.comesBack(1), 1);
        DUE.is("call(4), errs 0", v.call(4), 0);
        DUE.is("child(1, 5)", v.child(1, 5), 1);
    }

    private static void streaks() {
        SimonSays x = Due.told("child 0 0 9;");
        for (int n = 1; n <= 12; n++) {
            x.call(n % 2 == 0 ? 1 : 4);
            DUE.is("streak behind " + n, x.now(1), Math.min(9, n));
        }
        DUE.is("errs(0, 2)", x.errs(0, 2), 9);
        DUE.is("errs(0, 3)", x.errs(0, 3), 10);
        x.lot(1);
        x.call(2);
        DUE.is("streak behind BARE", x.now(1), 0);
        x.comesBack(0);
        x.call(1);
        DUE.is("streak", x.now(1), 1);
        x.lot(1);
        DUE.is("call(3), draw 8, errs 3", x.call(3), 0);
        DUE.is("streak behind SHOWN", x.now(1), 0);
        // ERRS looks at the streak ahead of the order, not behind it
        SimonSays y = Due.told("child 6 0 9;");
        y.lot(1);
        y.call(1);
        DUE.is("call(2), draw 6, errs 7", y.call(2), 1);
    }

    private static void comingBack() {
        SimonSays x = Due.told("child 9 0 9;child 9 0 9;");
        DUE.is("comesBack(0), in", x.comesBack(0), -2);
        DUE.is("comesBack(2)", x.comesBack(2), -1);
        DUE.is("comesBack(-1)", x.comesBack(-1), -1);
        DUE.is("nothing to undo", x.now(3), 0);
        x.call(1);
        x.lot(1);
        DUE.is("call(3), draws 8 6", x.call(3), 3);
        x.undo();
        x.lot(1);
        DUE.is("call(2), draws 8 6", x.call(2), 3);
        DUE.is("comesBack(1)", x.comesBack(1), 1);
        DUE.is("now(0)", x.now(0), 2);
        x.call(1);
        DUE.is("comesBack(0)", x.comesBack(0), 2);
        DUE.is("the streak stays", x.now(1), 1);
        DUE.is("now(0)", x.now(0), 3);
        DUE.is("now(3)", x.now(3), 5);
    }

    private static void undoing() {
        SimonSays x = Due.told("child 9 5 9;child 9 5 9;");
        DUE.is("undo(), none", x.undo(), -2);
        x.call(1);
        x.call(1);
        x.lot(1);
        DUE.is("call(2)", x.call(2), 3);
        DUE.is("comesBack(1)", x.comesBack(1), 1);
        DUE.is("call(1)", x.call(1), 0);
        int lot = x.lot(1);
        x.lot(lot);
        x.rate(5, 0);
        DUE.is("undo() of call(1)", x.undo(), 4);
        DUE.is("streak", x.now(1), 0);
        DUE.is("in", x.now(0), 2);
        DUE.is("undo() of comesBack(1)", x.undo(), 3);
        DUE.is("in", x.now(0), 0);
        DUE.is("undo() of call(2)", x.undo(), 2);
        DUE.is("in", x.now(0), 3);
        DUE.is("streak", x.now(1), 2);
        DUE.is("trace goes on", x.trace(), 100001);
        DUE.is("the lot stays", x.lot(lot), lot);
        DUE.is("call(1)", x.call(1), 0);
        DUE.is("streak", x.now(1), 3);
        DUE.is("undo()", x.undo(), 2);
        DUE.is("undo()", x.undo(), 1);
        DUE.is("streak", x.now(1), 1);
        DUE.is("undo()", x.undo(), 0);
        DUE.is("streak", x.now(1), 0);
        DUE.is("undo(), none", x.undo(), -2);
    }

    private static void undoingNoMoreThanTwelve() {
        SimonSays x = Due.told("child 9 9 9;");
        x.lot(1);
        DUE.is("call(2), lost later", x.call(2), 1);
        DUE.is("comesBack(0), lost later", x.comesBack(0), 1);
        for (int n = 1; n <= 12; n++) {
            x.call(1);
            DUE.is("now(3)", x.now(3), Math.min(12, n + 2));
        }
        for (int n = 11; n >= 0; n--) {
            DUE.is("undo()", x.undo(), n);
            DUE.is("streak", x.now(1), Math.min(9, n));
            DUE.is("in", x.now(0), 1);
        }
        DUE.is("undo(), none", x.undo(), -2);
        DUE.is("now(3)", x.now(3), 0);
    }

    private static void theLot() {
        SimonSays x = new SimonSays();
        DUE.is("lot(min)", x.lot(Integer.MIN_VALUE), 1);
        DUE.is("lot(-5)", x.lot(-5), Integer.MIN_VALUE);
        DUE.is("lot(0)", x.lot(0), -5);
        Due.typed(x, "child 0 0 9;");
        DUE.is("children()", x.children(), 1);
        DUE.is("call(1)", x.call(1), 0);
        DUE.is("lot(3)", x.lot(3), 12345);
        DUE.is("undo()", x.undo(), 0);
        DUE.is("lot(3)", x.lot(3), 3);
    }
}
