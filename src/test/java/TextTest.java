/** Promises 1 to 4 and 23: a new object, type, clear, children, count. */
public final class TextTest {
    private static final Due DUE = new Due("TextTest");
    private static final String SIX = "child 0 0 9;child 0 0 9;child 0 0 9;child 0 0 9;child 0 0 9;child 0 0 9;";

    public static void main(String[] args) {
        newObject();
        typing();
        clearing();
        reading();
        readingAnew();
        faults();
        nothingChangesByAFault();
        counting();
        DUE.finish();
    }

    private static void newObject() {
        SimonSays x = new SimonSays();
        DUE.is("new count(0)", x.count(0), 0);
        DUE.is("new count(1)", x.count(1), 0);
        DUE.is("new count(2)", x.count(2), 0);
        DUE.is("new count(3)", x.count(3), 0);
        DUE.is("new now(0)", x.now(0), 0);
        DUE.is("new now(1)", x.now(1), 0);
        DUE.is("new now(2)", x.now(2), 1);
        DUE.is("new now(3)", x.now(3), 0);
        DUE.is("new child(0, 0)", x.child(0, 0), -1);
        DUE.is("new call(1)", x.call(1), -2);
        DUE.is("new undo()", x.undo(), -2);
        DUE.is("new back(0)", x.back(0), -2);
        DUE.is("new back(1)", x.back(1), -2);
        DUE.is("new trace()", x.trace(), 0);
        DUE.is("new clear()", x.clear(), 0);
        DUE.is("new lot(7)", x.lot(7), 1);
        DUE.is("new keep(0)", x.keep(0), 0);
    }

    private static void typing() {
        SimonSays x = new SimonSays();
        DUE.is("type(0, 0)", x.type(0, 0), -1);
        DUE.is("type(0, 9)", x.type(0, 9), -1);
        DUE.is("type(0, -1)", x.type(0, -1), -1);
        DUE.is("type(0, min)", x.type(0, Integer.MIN_VALUE), -1);
        DUE.is("type(0, max)", x.type(0, Integer.MAX_VALUE), -1);
        DUE.is("nothing typed", x.count(3), 0);
        // only the lowest bytes count: "xyz" stands above "chi"
        DUE.is("type(xyzchi, 3)", x.type(0x78797a636869L, 3), 3);
        DUE.is("type(ld 1, 4)", x.type(0x6c642031L, 4), 7);
        DUE.is("type( 2 9;, 5)", x.type(0x203220393bL, 5), 12);
        DUE.is("children()", x.children(), 1);
        DUE.is("slip", x.child(0, 0), 1);
        DUE.is("late", x.child(0, 1), 2);

        SimonSays y = new SimonSays();
        for (int n = 1; n <= 24; n++) {
            DUE.is("type 8 at " + n, y.type(0x2020202020202020L, 8), 8 * n);
        }
        DUE.is("type(.., 1) at 192", y.type(32, 1), 193);
        DUE.is("type(.., 8) at 193", y.type(32, 8), -3);
        DUE.is("nothing of it stands", y.count(3), 193);
        DUE.is("type(.., 9) at 193", y.type(32, 9), -1);
        DUE.is("type(.., 7) at 193", y.type(0x20202020202020L, 7), 200);
        DUE.is("type(.., 1) at 200", y.type(32, 1), -3);
        DUE.is("type(.., 0) at 200", y.type(32, 0), -1);
        DUE.is("blanks alone are no item", y.children(), 0);
        DUE.is("and are gone", y.count(3), 0);

        // a byte above 127 is a byte like others
        SimonSays z = new SimonSays();
        DUE.is("type(-1, 8)", z.type(-1L, 8), 8);
        DUE.is("children() of bytes 255", z.children(), -10);
    }

    private static void clearing() {
        SimonSays x = new SimonSays();
        Due.typed(x, "child 1 2 9; nonsense");
        DUE.is("clear()", x.clear(), 21);
        DUE.is("clear() again", x.clear(), 0);
        DUE.is("count(3)", x.count(3), 0);
        DUE.is("children()", x.children(), 0);
        Due.typed(x, "child 4 2 9;");
        DUE.is("children()", x.children(), 1);
        DUE.is("child(0, 0)", x.child(0, 0), 4);
    }

    private static void items(String text, int want) {
        SimonSays x = new SimonSays();
        Due.typed(x, text);
        DUE.is("children() of '" + text + "'", x.children(), want);
        DUE.is("text behind '" + text + "'", x.count(3), 0);
    }

    private static void reading() {
        items("", 0);
        items(" ", 0);
        items("child 0 0 9;", 1);
        items("child0 0 9;", 1);
        items("  child  9   9    9  ;  ", 1);
        items("child 0 0 9;child 0 0 0;child 0 0 1;child 0 0 2;child 0 0 3;child 0 0 4;", 6);
        items("child 1 2 9;little 0;", 2);
        items("child 1 2 9;little0;little 0 ;", 3);
        items("child 1 2 9;little 0;child 1 2 0;little 1;", 4);
        items(SIX + "little 5;", 7);

        SimonSays x = new SimonSays();
        Due.typed(x, "child 3 2 9;child 5 4 0;little 1;child 1 0 1;little 1;");
        DUE.is("children()", x.children(), 5);
        long[][] want = {{3, 2, 9, 0, 1, 0}, {5, 4, 0, 1, 1, 0}, {1, 0, 1, 0, 1, 0}};
        for (int k = 0; k < 3; k++) {
            for (int what = 0; what < 6; what++) {
                DUE.is("child(" + k + ", " + what + ")", x.child(k, what), want[k][what]);
            }
        }
    }

    private static void readingAnew() {
        SimonSays x = Due.told("child 9 9 9;child 9 9 9;child 9 9 9;little 2;");
        x.lot(5);
        x.call(1);
        x.call(1);
        x.call(4);
        x.keep(0);
        x.keep(1);
        x.rate(0, 0);
        int lot = x.lot(99);
        DUE.is("the lot has gone on", lot == 5 ? 1 : 0, 0);
        Due.typed(x, "child 1 2 9;child 3 4 9;");
        DUE.is("children()", x.children(), 2);
        DUE.is("all are in", x.now(0), 3);
        DUE.is("streak", x.now(1), 0);
        DUE.is("fair", x.now(2), 1);
        DUE.is("none undone", x.now(3), 0);
        DUE.is("undo()", x.undo(), -2);
        DUE.is("none is little", x.count(1), 0);
        DUE.is("back(0)", x.back(0), -2);
        DUE.is("back(1)", x.back(1), -2);
        DUE.is("trace()", x.trace(), 1);
        DUE.is("the lot stays", x.lot(1), 99);
        DUE.is("child(2, 0)", x.child(2, 0), -1);
        DUE.is("children() of nothing", x.children(), 0);
        DUE.is("nobody", x.count(0), 0);
        DUE.is("nobody is in", x.now(0), 0);
        DUE.is("call(1)", x.call(1), -2);
    }

    private static void fault(String text, int place) {
        SimonSays x = new SimonSays();
        Due.typed(x, text);
        DUE.is("children() of '" + text + "'", x.children(), -10 - place);
        DUE.is("text behind '" + text + "'", x.count(3), text.length());
    }

    private static void faults() {
        // what can't stand there
        fault(";", 0);
        fault("5;", 0);
        fault("child 1 2 9;;", 12);
        fault("child;", 5);
        fault("child child 1 2 9;", 6);
        fault("child 1 little 2 9;", 8);
        fault("child 1 2;", 9);
        fault("child 1 2 9 9;", 12);
        fault("child 1 2 9 child 1 2 9;", 12);
        fault("little;", 6);
        fault("child 1 2 9;little 0 0;", 21);
        fault("child 1 2 9;little ;", 19);
        // numbers beyond what they may be
        fault("child 10 2 9;", 6);
        fault("child 1 10 9;", 8);
        fault("child 1 2 10;", 10);
        fault("child 1 2 0;", 10);
        fault("child 1 2 9;child 1 2 1;", 22);
        fault("child 1 2 9;child 1 2 8;", 22);
        fault("little 0;", 7);
        fault("child 1 2 9;little 1;", 19);
        fault("child 1 2 9;little 9;", 19);
        fault("child 1 2 9;child 1 2 9;little 99;", 31);
        fault(SIX + "child 0 0 9;", 72);
        fault(SIX + "little 0;child", 81);
        fault(SIX + "little 6;", 79);
        // bytes that begin no token, words that are none, numbers that are none
        fault("Child 1 2 9;", 0);
        fault("chiLd 1 2 9;", 0);
        fault("child 1, 2 9;", 7);
        fault("child 1 -2 9;", 8);
        fault("child\t1 2 9;", 5);
        fault("child 1 2 9;\n", 12);
        fault("child 1 2 9;\0", 12);
        fault("child 1 2 9;\u00e9", 12);
        fault("child 1 2 9:", 11);
        fault("child 1 2 9{", 11);
        fault("child 1 2 9`", 11);
        fault("child 1 2/9;", 9);
        fault("chil 1 2 9;", 0);
        fault("childs 1 2 9;", 0);
        fault("childchild 1 2 9;", 0);
        fault("childa 1 2 9;", 0);
        fault("childz 1 2 9;", 0);
        fault("xhild 1 2 9;", 0);
        fault("chilx 1 2 9;", 0);
        fault("child 1 2 9;xittle 0;", 12);
        fault("  littl 1;", 2);
        fault("littles 1;", 0);
        fault("child 1 2 9; a", 13);
        fault("child z 2 9;", 6);
        fault("child 100 2 9;", 6);
        fault("child 1 2 009;", 10);
        fault("child 00 2 9;", 6);
        fault("child 1 02 9;", 8);
        fault("child 1 2 99999999999999999999999;", 10);
        fault("child 1 2 4294967305;", 10);
        fault("child 1 2 9;little 00;", 19);
        fault("child 12 9;", 6);
        // of a token that can't stand there, what is behind it does not count
        fault("child 10 x 9;", 6);
        // ended too early
        fault("child", 5);
        fault("child ", 6);
        fault("child 1", 7);
        fault("child 1 2", 9);
        fault("child 1 2 9", 11);
        fault("child 1 2 9   ", 14);
        fault("child 1 2 9; little", 19);
        fault("child 1 2 9; little 0", 21);
        fault("   child 1 2 9; little 0  ", 26);
        // 200 bytes, the last one at fault
        StringBuilder full = new StringBuilder(SIX);
        while (full.length() < 199) {
            full.append(' ');
        }
        fault(full + "?", 199);
        items(full + " ", 6);
    }

    private static void nothingChangesByAFault() {
        SimonSays x = Due.told("child 1 0 9;child 2 0 9;child 3 0 9;little 1;");
        x.call(1);
        x.call(1);
        x.keep(0);
        Due.typed(x, "child 7 7 9; little 0; child 8 8 0; child");
        DUE.is("children()", x.children(), -10 - 41);
        DUE.is("children() again", x.children(), -10 - 41);
        DUE.is("count(0)", x.count(0), 3);
        DUE.is("count(1)", x.count(1), 1);
        DUE.is("child(0, 0)", x.child(0, 0), 1);
        DUE.is("child(0, 3)", x.child(0, 3), 0);
        DUE.is("child(1, 2)", x.child(1, 2), 9);
        DUE.is("child(1, 3)", x.child(1, 3), 1);
        DUE.is("streak", x.now(1), 2);
        DUE.is("to be undone", x.now(3), 2);
        DUE.is("back(0)", x.back(0), 3);
        // the text stays, so it can be typed to its end
        Due.typed(x, " 9 9 9;");
        DUE.is("children() mended", x.children(), 4);
        DUE.is("count(0)", x.count(0), 3);
        DUE.is("child(2, 0)", x.child(2, 0), 9);
        DUE.is("child(1, 3)", x.child(1, 3), 0);
    }

    private static void counting() {
        SimonSays x = Due.told("child 0 0 9;child 0 0 9;child 9 9 9;child 0 9 9;little 0;little 3;little 0;");
        DUE.is("count(0)", x.count(0), 4);
        DUE.is("count(1)", x.count(1), 2);
        DUE.is("count(2)", x.count(2), 4);
        DUE.is("count(3)", x.count(3), 0);
        DUE.is("count(-1)", x.count(-1), -1);
        DUE.is("count(4)", x.count(4), -1);
        DUE.is("count(min)", x.count(Integer.MIN_VALUE), -1);
        x.call(1);
        DUE.is("call(2)", x.call(2), 4);
        Due.typed(x, "ab");
        DUE.is("count(0)", x.count(0), 4);
        DUE.is("count(2)", x.count(2), 3);
        DUE.is("count(3)", x.count(3), 2);
    }
}
