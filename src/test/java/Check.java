/** Counts the answers that are not as due, prints them, and ends the test. */
final class Check {
    private static final int MOST_PRINTED = 40;
    private final String name;
    private long asked = 0;
    private long wrong = 0;

    Check(String name) {
        this.name = name;
    }

    void due(String call, long got, long want) {
        asked++;
        if (got != want) {
            fault(call + " answered " + got + ", due is " + want);
        }
    }

    void fault(String text) {
        wrong++;
        if (wrong <= MOST_PRINTED) {
            System.out.println(name + ": " + text);
        }
    }

    boolean hasFaults() {
        return wrong != 0;
    }

    void end() {
        System.out.println(name + ": " + asked + " answers, " + wrong + " not as due");
        if (wrong != 0) {
            System.exit(1);
        }
    }
}
