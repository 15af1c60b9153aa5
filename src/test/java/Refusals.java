import java.util.function.Supplier;
import java.util.function.ToLongFunction;

/**
 * A refused call answers as told, and nothing changes by it: an object that was asked it and a twin
 * that was not answer alike from then on.
 */
final class Refusals {
    static final int BAD = -1;
    static final int STATE = -2;
    static final int FULL = -3;

    private Refusals() {
    }

    /** By an object in a state of this kind. */
    static void refused(Due due, String call, Supplier<SimonSays> made, ToLongFunction<SimonSays> asked, long answer) {
        due.is(call, asked.applyAsLong(made.get()), answer);
        unmarked(due, call, made, asked);
    }

    static void unmarked(Due due, String call, Supplier<SimonSays> made, ToLongFunction<SimonSays> asked) {
        SimonSays marked = made.get();
        asked.applyAsLong(marked);
        due.is("where it shows that " + call + " was asked", Sight.firstDifference(marked, made.get()), -1);
    }

    static void unmarked(Due due, String call, ToLongFunction<SimonSays> asked) {
        unmarked(due, "new: " + call, SimonSays::new, asked);
        unmarked(due, "amid: " + call, Refusals::amid, asked);
        unmarked(due, "full: " + call, Refusals::full, asked);
        unmarked(due, "nobody in: " + call, Refusals::nobodyIn, asked);
    }

    /** By every object, whatever state it is in. */
    static void bad(Due due, String call, ToLongFunction<SimonSays> asked) {
        bad(due, call, asked, BAD);
    }

    static void bad(Due due, String call, ToLongFunction<SimonSays> asked, long answer) {
        refused(due, "new: " + call, SimonSays::new, asked, answer);
        refused(due, "amid: " + call, Refusals::amid, asked, answer);
        refused(due, "full: " + call, Refusals::full, asked, answer);
        refused(due, "nobody in: " + call, Refusals::nobodyIn, asked, answer);
    }

    /** Of five, 3 is out; STREAK 2, four to be undone, image 1 alone is kept, an item is half typed. */
    static SimonSays amid() {
        SimonSays x = Due.told("child 3 2 9;child 5 4 0;child 1 0 1;child 9 9 9;child 0 7 3;little 2;");
        x.lot(1);
        x.call(2);
        x.keep(1);
        x.call(1);
        x.call(4);
        x.comesBack(4);
        x.rate(4, 0);
        x.lot(-77);
        Due.typed(x, "child 7 6");
        return as(x, 23, 2, 4, 9);
    }

    /** Six children, 200 bytes, STREAK 9, twelve to be undone, both images are kept. */
    static SimonSays full() {
        SimonSays x = Due.told("child 9 9 9;child 9 9 9;child 9 9 0;child 9 9 1;child 9 9 2;child 9 9 0;");
        for (int n = 0; n < 5; n++) {
            x.call(1);
        }
        x.keep(0);
        for (int n = 0; n < 9; n++) {
            x.call(1);
        }
        x.keep(1);
        Due.typed(x, "child 1 2 9;" + " ".repeat(188));
        return as(x, 63, 9, 12, 200);
    }

    /** Three children, all out, each image kept, a text with a fault. */
    static SimonSays nobodyIn() {
        SimonSays x = Due.told("child 9 9 9;child 9 9 0;child 9 9 1;little 0;");
        x.call(1);
        x.keep(0);
        x.call(2);
        x.keep(1);
        Due.typed(x, "child 1 2 9;;");
        return as(x, 0, 0, 2, 13);
    }

    /** A state that is not the one that is told here would let a test hold without meaning. */
    private static SimonSays as(SimonSays x, int in, int streak, int undone, int bytes) {
        if (x.now(0) != in || x.now(1) != streak || x.now(3) != undone || x.count(3) != bytes) {
            throw new IllegalStateException("in " + x.now(0) + ", STREAK " + x.now(1) + ", to be undone " + x.now(3));
        }
        return x;
    }
}
