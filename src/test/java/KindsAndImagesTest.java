/** Promises 20 to 22 and 24: rate, keep, back, trace; and the constants. */
public final class KindsAndImagesTest {
    private static final Due DUE = new Due("KindsAndImagesTest");
    private static final String FOUR = "child 3 2 9;child 5 9 0;child 1 0 1;child 8 9 0;";

    public static void main(String[] args) {
        constants();
        rates();
        traces();
        ratesOfWhoIsOut();
        keeping();
        comingBackToAnImage();
        imagesAreRefused();
        DUE.finish();
    }

    private static void constants() {
        DUE.is("BAD", SimonSays.BAD, -1);
        DUE.is("STATE", SimonSays.STATE, -2);
        DUE.is("FULL", SimonSays.FULL, -3);
        DUE.is("NONE", SimonSays.NONE, -9);
        DUE.is("NO", SimonSays.NO, -1000000);
    }

    private static void rates() {
        SimonSays x = Due.told(FOUR);
        x.call(1);
        x.call(1);
        DUE.is("CHILD", x.rate(0, 1), 5);
        DUE.is("DREAMER", x.rate(1, 1), 7);
        DUE.is("WATCHER", x.rate(2, 1), -4);
        DUE.is("RUNNER", x.rate(3, 1), 14);
        DUE.is("COPIER", x.rate(4, 1), -3);
        DUE.is("COPIER of two, told directly", x.rate(4, 0), 3);
        DUE.is("COPIER of none", x.rate(4, 3), -1);
        DUE.is("LISTENER", x.rate(5, 1), 9);
        DUE.is("rate(-1, 0)", x.rate(-1, 0), -1000000);
        DUE.is("rate(6, 0)", x.rate(6, 0), -1000000);
        DUE.is("rate(0, 4)", x.rate(0, 4), -1000000);
        DUE.is("rate(0, -1)", x.rate(0, -1), -1000000);
        DUE.is("rate(min, min)", x.rate(Integer.MIN_VALUE, Integer.MIN_VALUE), -1000000);
        DUE.is("rate of a new object", new SimonSays().rate(0, 0), -1000000);
    }

    private static void traces() {
        long[] want = {1, 11, 101, 1011, 10101, 100001};
        for (int kind = 0; kind < 6; kind++) {
            SimonSays x = Due.told(FOUR);
            x.rate(kind, 0);
            DUE.is("trace() of kind " + kind, x.trace(), want[kind]);
            x.rate(kind, 3);
            DUE.is("trace() of kind " + kind + ", twice", x.trace(), 2 * want[kind]);
        }
        SimonSays x = Due.told(FOUR);
        x.rate(6, 0);
        x.rate(-1, 0);
        x.rate(3, 4);
        x.rate(3, -1);
        DUE.is("trace() behind BAD", x.trace(), 0);
        x.rate(4, 0);
        x.keep(0);
        x.rate(5, 0);
        x.call(1);
        x.undo();
        x.back(0);
        DUE.is("trace() behind back(), undo()", x.trace(), 110102);
        x.children();
        DUE.is("trace() behind children()", x.trace(), 110102);
    }

    private static void ratesOfWhoIsOut() {
        SimonSays x = Due.told("child 1 0 9;child 9 9 9;child 0 5 1;");
        DUE.is("call(4)", x.call(4), 6);
        DUE.is("CHILD, out", x.rate(0, 1), 9);
        DUE.is("DREAMER, out", x.rate(1, 1), 10);
        DUE.is("COPIER, both out", x.rate(4, 1), 1);
        DUE.is("LISTENER, out", x.rate(5, 2), 1);
    }

    private static void keeping() {
        SimonSays x = Due.told(FOUR);
        DUE.is("keep(0)", x.keep(0), 4);
        DUE.is("keep(1)", x.keep(1), 4);
        x.call(1);
        DUE.is("to be undone, kept or not", x.now(3), 1);
        DUE.is("keep(0)", x.keep(0), 4);
        DUE.is("still to be undone", x.now(3), 1);
        SimonSays none = new SimonSays();
        DUE.is("keep(1) of nobody", none.keep(1), 0);
        DUE.is("back(1) of nobody", none.back(1), 0);
    }

    private static void comingBackToAnImage() {
        SimonSays x = Due.told("child 9 0 9;child 0 9 9;");
        x.call(1);
        x.call(1);
        x.lot(1);
        DUE.is("keep(0)", x.keep(0), 2);
        DUE.is("call(4), draws 8 6", x.call(4), 2);
        DUE.is("keep(1)", x.keep(1), 1);
        DUE.is("call(2), draw 3", x.call(2), 1);
        DUE.is("back(0)", x.back(0), 2);
        DUE.is("in", x.now(0), 3);
        DUE.is("streak", x.now(1), 2);
        DUE.is("none undone", x.now(3), 0);
        DUE.is("undo()", x.undo(), -2);
        DUE.is("the same falls again", x.call(4), 2);
        DUE.is("lot", x.lot(5), -1770082073);
        DUE.is("back(1)", x.back(1), 1);
        DUE.is("in", x.now(0), 1);
        DUE.is("streak", x.now(1), 3);
        DUE.is("lot", x.lot(5), -1770082073);
        DUE.is("back(0)", x.back(0), 2);
        DUE.is("lot", x.lot(5), 1);
        DUE.is("back(0) again", x.back(0), 2);
        // kept anew
        x.call(1);
        DUE.is("keep(0)", x.keep(0), 2);
        x.call(2);
        DUE.is("back(0)", x.back(0), 2);
        DUE.is("streak", x.now(1), 3);
        // the text and the children are no part of it
        Due.typed(x, "abc");
        DUE.is("back(0)", x.back(0), 2);
        DUE.is("count(3)", x.count(3), 3);
    }

    private static void imagesAreRefused() {
        SimonSays x = Due.told(FOUR);
        x.call(1);
        DUE.is("keep(2)", x.keep(2), -1);
        DUE.is("keep(-1)", x.keep(-1), -1);
        DUE.is("keep(min)", x.keep(Integer.MIN_VALUE), -1);
        DUE.is("back(2)", x.back(2), -1);
        DUE.is("back(-1)", x.back(-1), -1);
        DUE.is("back(0)", x.back(0), -2);
        DUE.is("keep(1)", x.keep(1), 4);
        DUE.is("back(0)", x.back(0), -2);
        DUE.is("still to be undone", x.now(3), 1);
        DUE.is("streak", x.now(1), 1);
        DUE.is("back(1)", x.back(1), 4);
    }
}
