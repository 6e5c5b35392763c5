/** Counts the answers of one test that are not the ones that are due, and prints them. */
final class Check {

    private static final int MOST_PRINTED = 40;

    private final String test;
    private int asked = 0;
    private int wrong = 0;

    Check(String test) {
        this.test = test;
    }

    void due(String call, long got, long want) {
        asked++;
        if (got != want) {
            fault(call + " answered " + got + ", due is " + want);
        }
    }

    void due(String call, boolean got, boolean want) {
        due(call, got ? 1 : 0, want ? 1 : 0);
    }

    void fault(String what) {
        wrong++;
        if (wrong <= MOST_PRINTED) {
            System.out.println(test + ": " + what);
        }
    }

    boolean hasFaults() {
        return wrong > 0;
    }

    void end() {
        System.out.println(test + ": " + asked + " answers, " + wrong + " wrong");
        if (wrong > 0) {
            System.exit(1);
        }
    }
}
