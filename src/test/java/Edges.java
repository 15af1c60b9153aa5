import java.util.ArrayList;
import java.util.List;

/** Runs one test for each sentence of the document that names an edge, and tells by its promise what fails. */
final class Edges {
    interface Edge {
        void look(Due due);
    }

    private final String test;
    private final List<Integer> promises = new ArrayList<>();
    private int failed;

    Edges(String test) {
        this.test = test;
    }

    /** The words are the document's where it has them, so that the sentence can be found there. */
    void of(int promise, String words, Edge edge) {
        Due due = new Due(test + ", promise " + promise + " \"" + words + "\"");
        edge.look(due);
        promises.add(promise);
        if (due.wrong() != 0 || due.asked() == 0) {
            failed++;
            System.out.println(test + ", promise " + promise + " \"" + words + "\": does not hold");
        }
    }

    /** A promise without a test counts as one that fails. */
    void finish(int... due) {
        for (int promise : due) {
            if (!promises.contains(promise)) {
                failed++;
                System.out.println(test + ", promise " + promise + ": has no test");
            }
        }
        System.out.println(test + ": " + promises.size() + " edges, " + failed + " do not hold");
        if (failed != 0) {
            System.exit(1);
        }
    }
}
