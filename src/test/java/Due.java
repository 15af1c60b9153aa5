/** Counts the calls whose answer is not the one that is due, and tells each. */
final class Due {
    private final String test;
    private int asked;
    private int wrong;

    Due(String test) {
        this.test = test;
    }

    void is(String call, long got, long want) {
        asked++;
        if (got != want) {
            wrong++;
            System.out.println(test + ": " + call + " answered " + got + ", due is " + want);
        }
    }

    void isTrue(String claim, boolean holds) {
        is(claim, holds ? 1 : 0, 1);
    }

    int asked() {
        return asked;
    }

    int wrong() {
        return wrong;
    }

    void finish() {
        System.out.println(test + ": " + asked + " answers, " + wrong + " not as due");
        if (wrong != 0 || asked == 0) {
            System.exit(1);
        }
    }

    /** Types a text of signs 0 .. 255, eight at a time; what the last type() answered. */
    static int typed(SimonSays x, String text) {
        int answer = x.count(3);
        for (int from = 0; from < text.length(); from += 8) {
            int to = Math.min(text.length(), from + 8);
            long v = 0;
            for (int place = from; place < to; place++) {
                v = v << 8 | text.charAt(place);
            }
            answer = x.type(v, to - from);
        }
        return answer;
    }

    static SimonSays told(String text) {
        SimonSays x = new SimonSays();
        typed(x, text);
        if (x.children() < 0) {
            throw new IllegalStateException("the test's own text is at fault: " + text);
        }
        return x;
    }
}
