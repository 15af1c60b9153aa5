import java.util.Random;

/** Runs of calls by a fixed seed: each answer must be the one of the Model, and none may throw. */
public final class ModelTest {
    private static final Due DUE = new Due("ModelTest");
    private static final int RUNS = 1500;
    private static final int CALLS = 160;
    private static final int[] ODD = {Integer.MIN_VALUE, -2, -1, 0, 1, 2, 7, 9, 10, 31, 32, 63, 64, 1 << 16, Integer.MAX_VALUE};
    private static final String[] SLIPS = {"?", "x", "00", "09", "10", "100", "child", "little", ";", " ", "\u00ff", "C"};

    private final Random random;
    private final SimonSays x = new SimonSays();
    private final Model model = new Model();
    private final String run;

    private ModelTest(int seed) {
        random = new Random(seed);
        run = "run " + seed + ": ";
    }

    public static void main(String[] args) {
        for (int seed = 0; seed < RUNS; seed++) {
            new ModelTest(seed).runCalls();
        }
        DUE.finish();
    }

    private void runCalls() {
        if (random.nextInt(10) > 0) {
            tell();
        }
        for (int call = 0; call < CALLS; call++) {
            if (random.nextInt(60) == 0) {
                tell();
            }
            any();
            if (random.nextInt(8) == 0) {
                lookAtAll();
            }
        }
    }

    /** Mostly what it may be, now and then what it may not. */
    private int number(int below) {
        int kind = random.nextInt(25);
        if (kind == 0) {
            return ODD[random.nextInt(ODD.length)];
        }
        return kind == 1 ? below : random.nextInt(below);
    }

    private int row(int most) {
        int figures = number(most + 1);
        if (figures < 0 || figures > 10) {
            return figures;
        }
        int row = 0;
        for (int place = 0; place < figures; place++) {
            row = row * 10 + 1 + random.nextInt(4);
        }
        return random.nextInt(30) == 0 ? row + random.nextInt(100) : row;
    }

    private String text() {
        StringBuilder text = new StringBuilder();
        int kids = random.nextInt(7);
        boolean sure = random.nextInt(3) == 0;
        for (int k = 0; k < kids; k++) {
            int slip = sure ? 9 * random.nextInt(2) : random.nextInt(10);
            int copies = k == 0 || random.nextInt(2) == 0 ? 9 : random.nextInt(k);
            text.append("child").append(blanks(0)).append(slip).append(blanks(1)).append(random.nextInt(10));
            text.append(blanks(1)).append(copies).append(blanks(0)).append(';').append(blanks(0));
            if (random.nextInt(3) == 0) {
                text.append("little").append(blanks(0)).append(random.nextInt(k + 1)).append(';').append(blanks(0));
            }
        }
        if (random.nextInt(4) == 0) {
            int at = random.nextInt(text.length() + 1);
            switch (random.nextInt(3)) {
                case 0: text.insert(at, SLIPS[random.nextInt(SLIPS.length)]); break;
                case 1: text.setLength(at); break;
                default: text.replace(at, Math.min(text.length(), at + 1 + random.nextInt(3)), "" + random.nextInt(12));
            }
        }
        return text.toString();
    }

    private String blanks(int least) {
        return " ".repeat(least + (random.nextInt(4) == 0 ? random.nextInt(3) : 0));
    }

    private void tell() {
        if (random.nextInt(4) > 0) {
            DUE.is(run + "clear()", x.clear(), model.clear());
        }
        String text = text();
        for (int from = 0; from < text.length();) {
            int n = Math.min(text.length() - from, 1 + random.nextInt(8));
            long v = random.nextLong();
            for (int place = from; place < from + n; place++) {
                v = v << 8 | text.charAt(place);
            }
            DUE.is(run + "type(" + v + ", " + n + ")", x.type(v, n), model.type(v, n));
            from += n;
        }
        DUE.is(run + "children() of '" + text + "'", x.children(), model.children());
    }

    private void lookAtAll() {
        for (int what = -1; what < 5; what++) {
            DUE.is(run + "now(" + what + ")", x.now(what), model.now(what));
            DUE.is(run + "count(" + what + ")", x.count(what), model.count(what));
        }
        for (int k = 0; k < 7; k++) {
            for (int what = 0; what < 6; what++) {
                DUE.is(run + "child(" + k + ", " + what + ")", x.child(k, what), model.child(k, what));
            }
        }
        DUE.is(run + "trace()", x.trace(), model.trace());
    }

    private void any() {
        int a = number(6);
        int order = 1 + number(4);
        int set = random.nextInt(3) == 0 ? x.now(0) & random.nextInt(64) : number(64);
        int what = number(2);
        switch (random.nextInt(22)) {
            case 0: case 1: case 2:
                DUE.is(run + "call(" + order + ")", x.call(order), model.call(order));
                break;
            case 3: case 4:
                DUE.is(run + "comesBack(" + a + ")", x.comesBack(a), model.comesBack(a));
                break;
            case 5:
                DUE.is(run + "undo()", x.undo(), model.undo());
                break;
            case 6:
                DUE.is(run + "errs(" + a + ", " + order + ")", x.errs(a, order), model.errs(a, order));
                break;
            case 7:
                int v = random.nextInt();
                DUE.is(run + "lot(" + v + ")", x.lot(v), model.lot(v));
                break;
            case 8:
                int kind = number(6);
                DUE.is(run + "rate(" + kind + ", " + a + ")", x.rate(kind, a), model.rate(kind, a));
                break;
            case 9:
                int image = number(2);
                DUE.is(run + "keep(" + image + ")", x.keep(image), model.keep(image));
                break;
            case 10:
                int other = number(2);
                DUE.is(run + "back(" + other + ")", x.back(other), model.back(other));
                break;
            case 11:
                int n = number(9);
                long bytes = random.nextLong();
                DUE.is(run + "type(" + bytes + ", " + n + ")", x.type(bytes, n), model.type(bytes, n));
                break;
            case 12:
                // a second row of SAID orders, so that the streak comes to its end, too
                for (int time = random.nextInt(14); time > 0; time--) {
                    DUE.is(run + "call(1)", x.call(1), model.call(1));
                }
                break;
            default:
                anyChance(a, order, set, what);
        }
    }

    private void anyChance(int a, int order, int set, int what) {
        switch (random.nextInt(9)) {
            case 0:
                DUE.is(run + "falls(" + order + ", " + set + ", " + what + ")",
                        x.falls(order, set, what), model.falls(order, set, what));
                break;
            case 1:
                int n = number(7);
                DUE.is(run + "many(" + order + ", " + n + ", " + what + ")",
                        x.many(order, n, what), model.many(order, n, what));
                break;
            case 2:
                int row = row(9);
                DUE.is(run + "stays(" + a + ", " + row + ", " + what + ")",
                        x.stays(a, row, what), model.stays(a, row, what));
                break;
            case 3: case 4:
                int three = row(3);
                DUE.is(run + "left(" + three + ", " + what + ")", x.left(three, what), model.left(three, what));
                break;
            case 5:
                // the Model looks at thousands of outcomes for a row of three
                int figures = random.nextInt(6) == 0 ? 3 : number(3);
                DUE.is(run + "best(" + figures + ")", x.best(figures), model.best(figures));
                break;
            case 6:
                int c = number(11);
                DUE.is(run + "lure(" + a + ", " + c + ")", x.lure(a, c), model.lure(a, c));
                break;
            case 7:
                DUE.is(run + "could(" + set + ")", x.could(set), model.could(set));
                break;
            default:
                DUE.is(run + "likeliest(" + set + ")", x.likeliest(set), model.likeliest(set));
        }
    }
}
