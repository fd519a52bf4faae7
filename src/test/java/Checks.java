/** Counts the answers that are not the ones due, and ends the test with exit code 1 if there was one. */
final class Checks {
    private final String about;
    private int made = 0;
    private int wrong = 0;

    Checks() {
        this("");
    }

    /** What is wrong is told with these words before it. */
    Checks(String about) {
        this.about = about;
    }

    void due(String call, long got, long want) {
        made++;
        if (got != want) {
            wrong++;
            System.out.println(about + call + " answered " + got + ", due is " + want);
        }
    }

    /** A test that asked nothing holds nothing. */
    boolean allHold() {
        return made > 0 && wrong == 0;
    }

    void finish() {
        System.out.println(wrong + " of " + made + " answers are not as due");
        if (!allHold()) {
            System.exit(1);
        }
    }
}
