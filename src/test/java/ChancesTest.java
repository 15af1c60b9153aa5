/** Promises 12 to 19: falls, many, stays, left, best, lure, could, likeliest. */
public final class ChancesTest {
    private static final Due DUE = new Due("ChancesTest");
    /** Two groups: 0 with 1 and 2; 3 by itself. */
    private static final String FOUR = "child 3 2 9;child 5 4 0;child 1 0 1;child 8 9 9;";

    public static void main(String[] args) {
        falling();
        fallingWithSomeOut();
        howMany();
        staying();
        justOneLeft();
        bestRows();
        luring();
        whatItWas();
        nothingIsChanged();
        DUE.finish();
    }

    private static void fraction(String call, long upper, long lower, long wantUpper, long wantLower) {
        DUE.is(call + " upper", upper, wantUpper);
        DUE.is(call + " lower", lower, wantLower);
    }

    private static void falls(SimonSays x, int order, int set, long upper, long lower) {
        fraction("falls(" + order + ", " + set + ")", x.falls(order, set, 0), x.falls(order, set, 1), upper, lower);
    }

    private static void many(SimonSays x, int order, int n, long upper, long lower) {
        fraction("many(" + order + ", " + n + ")", x.many(order, n, 0), x.many(order, n, 1), upper, lower);
    }

    private static void stays(SimonSays x, int k, int row, long upper, long lower) {
        fraction("stays(" + k + ", " + row + ")", x.stays(k, row, 0), x.stays(k, row, 1), upper, lower);
    }

    private static void left(SimonSays x, int row, long upper, long lower) {
        fraction("left(" + row + ")", x.left(row, 0), x.left(row, 1), upper, lower);
    }

    private static void falling() {
        SimonSays x = Due.told(FOUR);
        falls(x, 1, 0, 1, 1);
        falls(x, 1, 8, 0, 1);
        falls(x, 2, 0, 7, 50);
        falls(x, 2, 7, 3, 50);
        falls(x, 2, 8, 14, 25);
        falls(x, 2, 15, 6, 25);
        falls(x, 2, 1, 0, 1);
        falls(x, 2, 6, 0, 1);
        falls(x, 3, 0, 0, 1);
        falls(x, 3, 8, 1, 2);
        falls(x, 4, 7, 1, 50);
        falls(x, 4, 15, 9, 50);
        DUE.is("falls(0, 0, 0)", x.falls(0, 0, 0), -1);
        DUE.is("falls(5, 0, 0)", x.falls(5, 0, 0), -1);
        DUE.is("falls(1, 16, 0)", x.falls(1, 16, 0), -1);
        DUE.is("falls(1, 17, 1)", x.falls(1, 17, 1), -1);
        DUE.is("falls(1, -1, 0)", x.falls(1, -1, 0), -1);
        DUE.is("falls(1, min, 0)", x.falls(1, Integer.MIN_VALUE, 0), -1);
        DUE.is("falls(1, 0, 2)", x.falls(1, 0, 2), -1);
        DUE.is("falls(1, 0, -1)", x.falls(1, 0, -1), -1);
        SimonSays none = new SimonSays();
        falls(none, 2, 0, 1, 1);
        DUE.is("falls(2, 1, 0) of nobody", none.falls(2, 1, 0), -1);
    }

    private static void fallingWithSomeOut() {
        SimonSays x = Due.told(FOUR);
        DUE.is("call(2), draws 8 6", x.call(2), 8);
        falls(x, 2, 0, 7, 10);
        falls(x, 2, 7, 3, 10);
        falls(x, 2, 8, 0, 1);
        falls(x, 2, 15, 0, 1);
        many(x, 2, 3, 3, 10);
        many(x, 2, 4, 0, 1);
        x.call(1);
        falls(x, 2, 7, 2, 5);
        DUE.is("could(8), it is out", x.could(8), 0);
        DUE.is("likeliest(8), it is out", x.likeliest(8), -9);
    }

    private static void howMany() {
        SimonSays x = Due.told(FOUR);
        many(x, 1, 0, 1, 1);
        many(x, 1, 1, 0, 1);
        many(x, 2, 0, 7, 50);
        many(x, 2, 1, 14, 25);
        many(x, 2, 2, 0, 1);
        many(x, 2, 3, 3, 50);
        many(x, 2, 4, 6, 25);
        many(x, 2, 5, 0, 1);
        many(x, 2, 6, 0, 1);
        DUE.is("many(2, 7, 0)", x.many(2, 7, 0), -1);
        DUE.is("many(2, -1, 0)", x.many(2, -1, 0), -1);
        DUE.is("many(0, 0, 0)", x.many(0, 0, 0), -1);
        DUE.is("many(5, 0, 0)", x.many(5, 0, 0), -1);
        DUE.is("many(2, 0, 2)", x.many(2, 0, 2), -1);
        DUE.is("many(2, 0, -1)", x.many(2, 0, -1), -1);
        // six alike: by the binomial coefficients
        SimonSays y = Due.told("child 5 1 9;child 5 1 9;child 5 1 9;child 5 1 9;child 5 1 9;child 5 1 9;");
        many(y, 2, 0, 1, 64);
        many(y, 2, 1, 3, 32);
        many(y, 2, 2, 15, 64);
        many(y, 2, 3, 5, 16);
        many(y, 2, 6, 1, 64);
        many(y, 4, 6, 1, 1000000);
        many(y, 4, 0, 531441, 1000000);
    }

    private static void staying() {
        SimonSays x = Due.told(FOUR);
        stays(x, 0, 0, 1, 1);
        stays(x, 0, 1, 1, 1);
        stays(x, 0, 2, 7, 10);
        // the first order is the highest figure: SAID makes the BARE one behind it worse
        stays(x, 0, 12, 3, 5);
        stays(x, 0, 21, 7, 10);
        stays(x, 0, 42, 12, 25);
        stays(x, 0, 22, 49, 100);
        stays(x, 0, 3, 1, 2);
        stays(x, 0, 13, 2, 5);
        // a child stays just if its leader does
        stays(x, 1, 12, 3, 5);
        stays(x, 2, 42, 12, 25);
        stays(x, 3, 2, 1, 5);
        stays(x, 3, 12, 1, 10);
        stays(x, 3, 112, 0, 1);
        stays(x, 3, 3, 0, 1);
        stays(x, 3, 444444444, 1, 1000000000);
        stays(x, 0, 222222222, 40353607, 1000000000);
        stays(x, 0, 111111111, 1, 1);
        DUE.is("stays(0, 1111111111, 0)", x.stays(0, 1111111111, 0), -1);
        DUE.is("stays(0, max, 0)", x.stays(0, Integer.MAX_VALUE, 0), -1);
        DUE.is("stays(0, -1, 0)", x.stays(0, -1, 0), -1);
        DUE.is("stays(0, min, 0)", x.stays(0, Integer.MIN_VALUE, 0), -1);
        DUE.is("stays(0, 5, 0)", x.stays(0, 5, 0), -1);
        DUE.is("stays(0, 10, 0)", x.stays(0, 10, 0), -1);
        DUE.is("stays(0, 102, 0)", x.stays(0, 102, 0), -1);
        DUE.is("stays(0, 152, 1)", x.stays(0, 152, 1), -1);
        DUE.is("stays(0, 9, 0)", x.stays(0, 9, 0), -1);
        DUE.is("stays(4, 1, 0)", x.stays(4, 1, 0), -1);
        DUE.is("stays(-1, 1, 0)", x.stays(-1, 1, 0), -1);
        DUE.is("stays(0, 1, 2)", x.stays(0, 1, 2), -1);
        DUE.is("stays(0, 1, -1)", x.stays(0, 1, -1), -1);
        // the streak goes on from what it is, to 9 at most
        SimonSays y = Due.told("child 0 0 9;");
        for (int n = 0; n < 8; n++) {
            y.call(1);
        }
        stays(y, 0, 2, 1, 5);
        stays(y, 0, 12, 1, 10);
        stays(y, 0, 1142, 1, 10);
        stays(y, 0, 113, 0, 1);
        // SHOWN ends the streak, too
        stays(y, 0, 32, 0, 1);
        stays(y, 0, 22, 1, 5);
        // who is out
        SimonSays z = Due.told(FOUR);
        z.call(2);
        stays(z, 3, 0, 0, 1);
        stays(z, 3, 1, 0, 1);
        stays(z, 0, 12, 3, 5);
        DUE.is("stays(3, 5, 0), out", z.stays(3, 5, 0), -1);
        DUE.is("stays(3, 1, 2), out", z.stays(3, 1, 2), -1);
    }

    private static void justOneLeft() {
        SimonSays x = Due.told(FOUR);
        // only 3 can be the last: 0 has two who stay with it
        left(x, 0, 0, 1);
        left(x, 1, 0, 1);
        left(x, 2, 3, 50);
        left(x, 12, 1, 25);
        left(x, 4, 1, 50);
        left(x, 3, 0, 1);
        left(x, 44, 9, 2500);
        DUE.is("left(1111, 0)", x.left(1111, 0), -1);
        DUE.is("left(-1, 0)", x.left(-1, 0), -1);
        DUE.is("left(5, 0)", x.left(5, 0), -1);
        DUE.is("left(10, 0)", x.left(10, 0), -1);
        DUE.is("left(101, 0)", x.left(101, 0), -1);
        DUE.is("left(500, 0)", x.left(500, 0), -1);
        DUE.is("left(min, 0)", x.left(Integer.MIN_VALUE, 0), -1);
        DUE.is("left(1, 2)", x.left(1, 2), -1);
        DUE.is("left(1, -1)", x.left(1, -1), -1);
        SimonSays two = Due.told("child 5 5 9;child 5 5 9;");
        left(two, 0, 0, 1);
        left(two, 2, 1, 2);
        left(two, 22, 3, 8);
        SimonSays one = Due.told("child 5 5 9;");
        left(one, 0, 1, 1);
        left(one, 444, 1, 8);
        left(new SimonSays(), 123, 0, 1);
        // the greatest numbers there are: 10^18 below
        SimonSays six = Due.told("child 1 1 9;child 1 1 9;child 1 1 9;child 1 1 9;child 1 1 9;child 1 1 9;");
        left(six, 444, 6L * 729 * 271 * 271 * 271 * 271 * 271 / 2, 500000000000000000L);
    }

    private static void bestRows() {
        SimonSays x = Due.told(FOUR);
        DUE.is("best(0)", x.best(0), 0);
        DUE.is("best(1)", x.best(1), 2);
        DUE.is("best(4)", x.best(4), -1);
        DUE.is("best(-1)", x.best(-1), -1);
        DUE.is("best(min)", x.best(Integer.MIN_VALUE), -1);
        // all rows leave none or the same: the least
        SimonSays none = new SimonSays();
        DUE.is("best(1) of nobody", none.best(1), 1);
        DUE.is("best(2) of nobody", none.best(2), 11);
        DUE.is("best(3) of nobody", none.best(3), 111);
        SimonSays one = Due.told("child 0 0 9;");
        DUE.is("best(1) of one", one.best(1), 1);
        DUE.is("best(2) of one", one.best(2), 11);
        // QUICK fells 0 surely enough, and leaves 1 alone
        SimonSays quick = Due.told("child 0 9 9;child 8 0 9;");
        DUE.is("best(1)", quick.best(1), 4);
        DUE.is("best(2)", quick.best(2), 44);
        DUE.is("best(3)", quick.best(3), 444);
        // each of SHOWN and BARE is as likely: the less one
        SimonSays alike = Due.told("child 4 0 9;child 4 0 9;");
        DUE.is("left(2, 0)", alike.left(2, 0), 12);
        DUE.is("left(3, 0)", alike.left(3, 0), 12);
        DUE.is("best(1)", alike.best(1), 2);
    }

    private static void luring() {
        SimonSays x = Due.told(FOUR);
        DUE.is("lure(0, 0)", x.lure(0, 0), 0);
        DUE.is("lure(0, 3)", x.lure(0, 3), 0);
        DUE.is("lure(0, 4)", x.lure(0, 4), 1);
        DUE.is("lure(0, 10)", x.lure(0, 10), 7);
        DUE.is("lure(1, 5), by its leader", x.lure(1, 5), 2);
        DUE.is("lure(2, 5), by its leader", x.lure(2, 5), 2);
        DUE.is("lure(3, 10)", x.lure(3, 10), 2);
        DUE.is("lure(0, -1)", x.lure(0, -1), -1);
        DUE.is("lure(0, 11)", x.lure(0, 11), -1);
        DUE.is("lure(4, 5)", x.lure(4, 5), -1);
        DUE.is("lure(-1, 5)", x.lure(-1, 5), -1);
        x.call(1);
        x.call(1);
        DUE.is("lure(0, 4), streak 2", x.lure(0, 4), 0);
        DUE.is("lure(0, 10), streak 2", x.lure(0, 10), 5);
        SimonSays y = Due.told("child 0 0 9;child 1 0 9;child 9 9 9;");
        DUE.is("lure(0, 9)", y.lure(0, 9), 9);
        DUE.is("lure(0, 10)", y.lure(0, 10), -9);
        DUE.is("lure(1, 10)", y.lure(1, 10), 9);
        y.call(4);
        DUE.is("now(0)", y.now(0), 3);
        DUE.is("lure(2, 0), out", y.lure(2, 0), -9);
        DUE.is("lure(2, 11), out", y.lure(2, 11), -1);
    }

    private static void whatItWas() {
        SimonSays x = Due.told(FOUR);
        DUE.is("could(0)", x.could(0), 22);
        DUE.is("could(8)", x.could(8), 28);
        DUE.is("could(7)", x.could(7), 20);
        DUE.is("could(15)", x.could(15), 28);
        DUE.is("could(1)", x.could(1), 0);
        DUE.is("could(16)", x.could(16), -1);
        DUE.is("could(-1)", x.could(-1), -1);
        DUE.is("could(min)", x.could(Integer.MIN_VALUE), -1);
        DUE.is("likeliest(0)", x.likeliest(0), 1);
        DUE.is("likeliest(8)", x.likeliest(8), 4);
        DUE.is("likeliest(7)", x.likeliest(7), 2);
        DUE.is("likeliest(15)", x.likeliest(15), 3);
        DUE.is("likeliest(1)", x.likeliest(1), -9);
        DUE.is("likeliest(16)", x.likeliest(16), -1);
        DUE.is("likeliest(-1)", x.likeliest(-1), -1);
        // of several the least
        SimonSays y = Due.told("child 4 4 9;");
        DUE.is("likeliest(1)", y.likeliest(1), 3);
        SimonSays z = Due.told("child 4 6 9;");
        DUE.is("likeliest(1), SHOWN as QUICK", z.likeliest(1), 3);
        SimonSays w = Due.told("child 0 0 9;");
        DUE.is("likeliest(0)", w.likeliest(0), 1);
        DUE.is("could(0)", w.could(0), 30);
        DUE.is("could(1)", w.could(1), 8);
        SimonSays none = new SimonSays();
        DUE.is("could(0) of nobody", none.could(0), 30);
        DUE.is("could(1) of nobody", none.could(1), -1);
        DUE.is("likeliest(0) of nobody", none.likeliest(0), 1);
    }

    private static void nothingIsChanged() {
        SimonSays x = Due.told(FOUR);
        x.call(1);
        int lot = x.lot(77);
        x.falls(2, 7, 0);
        x.many(2, 3, 0);
        x.stays(0, 222, 0);
        x.left(123, 0);
        x.best(3);
        x.lure(0, 10);
        x.could(7);
        x.likeliest(7);
        DUE.is("in", x.now(0), 15);
        DUE.is("streak", x.now(1), 1);
        DUE.is("to be undone", x.now(3), 1);
        DUE.is("trace", x.trace(), 0);
        DUE.is("lot", x.lot(lot), 77);
    }
}
