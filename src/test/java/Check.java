/** Counts the answers that are not as due; each test has one. */
final class Check {
    private final String test;
    private int asked = 0;
    private int wrong = 0;

    Check(String test) {
        this.test = test;
    }

    void due(String call, long got, long want) {
        asked++;
        if (got != want) {
            wrong++;
            System.out.println(test + ": " + call + " answered " + got + ", due is " + want);
        }
    }

    /** A fraction, told by its two parts. */
    void due(String call, long gotUp, long gotLow, long up, long low) {
        due(call + " upper", gotUp, up);
        due(call + " lower", gotLow, low);
    }

    void holds(String what, boolean held) {
        due(what, held ? 1 : 0, 1);
    }

    int wrongSoFar() {
        return wrong;
    }

    void end() {
        System.out.println(test + ": " + asked + " answers, " + wrong + " wrong");
        if (wrong != 0 || asked == 0) {
            System.exit(1);
        }
    }
}
