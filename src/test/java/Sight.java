import java.util.ArrayList;
import java.util.List;

/** All that an object can show: what it answers, what undoing, both images and its text bring back. */
final class Sight {
    private final SimonSays x;
    private final List<Long> seen = new ArrayList<>();

    private Sight(SimonSays x) {
        this.x = x;
        lookAtChildren();
        lookAtRound();
        lookAtChances();
        undoAll();
        goBack(0);
        goBack(1);
        readOn();
    }

    /** Both are used up by it; -1: there is none. */
    static int firstDifference(SimonSays one, SimonSays other) {
        List<Long> first = new Sight(one).seen;
        List<Long> second = new Sight(other).seen;
        for (int place = 0; place < Math.min(first.size(), second.size()); place++) {
            if (!first.get(place).equals(second.get(place))) {
                return place;
            }
        }
        return first.size() == second.size() ? -1 : Math.min(first.size(), second.size());
    }

    private void see(long answer) {
        seen.add(answer);
    }

    private void lookAtChildren() {
        for (int k = 0; k < 6; k++) {
            for (int what = 0; what < 6; what++) {
                see(x.child(k, what));
            }
        }
        for (int what = 0; what < 4; what++) {
            see(x.count(what));
        }
    }

    private void lookAtRound() {
        for (int what = 0; what < 4; what++) {
            see(x.now(what));
        }
        int lot = x.lot(0);
        x.lot(lot);
        see(lot);
        see(x.trace());
    }

    private void lookAtChances() {
        see(x.many(2, 1, 0));
        see(x.many(2, 1, 1));
        see(x.left(12, 0));
        see(x.left(12, 1));
        see(x.best(1));
        see(x.could(1));
    }

    /** A few times more than can be, so that what was lost shows if it is not. */
    private void undoAll() {
        for (int time = 0; time < 15; time++) {
            see(x.undo());
            see(x.now(0));
            see(x.now(1));
        }
    }

    private void goBack(int image) {
        see(x.back(image));
        lookAtRound();
    }

    /** A text that ended too early is helped to its end, so that its numbers show. */
    private void readOn() {
        see(x.children());
        Due.typed(x, " 9;");
        see(x.children());
        lookAtChildren();
        lookAtRound();
    }
}
