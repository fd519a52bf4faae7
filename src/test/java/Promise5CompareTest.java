/** Promise 5: compare, and what PRECEDENCE is. */
public final class Promise5CompareTest {
    /** Each is below the next. */
    private static final String[] RISING = {
        "0.0.0-0", "0.0.0", "0.0.1", "0.0.999999999", "0.1.0", "0.9.9", "0.10.0", "0.999999999.0",
        "1.0.0-0", "1.0.0-0.0", "1.0.0-0.a", "1.0.0-1", "1.0.0-2", "1.0.0-10", "1.0.0-10.0", "1.0.0-12345678",
        "1.0.0-99999999", "1.0.0--", "1.0.0--.0", "1.0.0---", "1.0.0--1", "1.0.0--a", "1.0.0-0-", "1.0.0-0a",
        "1.0.0-10a", "1.0.0-1a", "1.0.0-9999999a", "1.0.0-A", "1.0.0-A.a", "1.0.0-AA", "1.0.0-Z", "1.0.0-ZZZZZZZZ",
        "1.0.0-a", "1.0.0-a.0", "1.0.0-a.0.z", "1.0.0-a.1", "1.0.0-a.9", "1.0.0-a.10", "1.0.0-a.-", "1.0.0-a.a",
        "1.0.0-a.a.a", "1.0.0-a.a.a.0", "1.0.0-a.a.a.1", "1.0.0-a.a.a.a", "1.0.0-a.a.a.b", "1.0.0-a.a.b", "1.0.0-a.b",
        "1.0.0-a-", "1.0.0-a-b", "1.0.0-a0", "1.0.0-aA", "1.0.0-aa", "1.0.0-abcdefg", "1.0.0-abcdefgh", "1.0.0-abcdefgi",
        "1.0.0-abd", "1.0.0-b", "1.0.0-zzzzzzzz", "1.0.0-zzzzzzzz.zzzzzzzz.zzzzzzzz.zzzzzzzz", "1.0.0",
        "1.0.1-0", "1.0.1", "1.0.2", "1.0.10", "1.1.0-a", "1.1.0", "1.2.0", "1.10.0", "2.0.0-z", "2.0.0", "10.0.0",
        "999999998.999999999.999999999", "999999999.0.0", "999999999.999999999.999999999-z",
        "999999999.999999999.999999999",
    };

    public static void main(String[] args) {
        Checks checks = new Checks();
        everyPairOfTheRisingRow(checks);
        sameIsZero(checks);
        missingIsNone(checks);
        checks.finish();
    }

    private static void everyPairOfTheRisingRow(Checks checks) {
        for (int i = 0; i < RISING.length; i++) {
            for (int j = 0; j < RISING.length; j++) {
                VersionRanges x = Run.with(RISING[i], RISING[j]).x;
                checks.due("compare " + RISING[i] + " with " + RISING[j], x.compare(0, 1), Integer.compare(i, j));
            }
        }
    }

    private static void sameIsZero(Checks checks) {
        VersionRanges x = Run.with("1.2.3-a.1", "1.2.3", " 1.2.3-a.1", "1.2.3  ").x;
        checks.due("compare(0, 0)", x.compare(0, 0), 0);
        checks.due("compare(0, 2)", x.compare(0, 2), 0);
        checks.due("compare(1, 3)", x.compare(1, 3), 0);
        checks.due("compare(0, 3)", x.compare(0, 3), -1);
        checks.due("compare(3, 0)", x.compare(3, 0), 1);
    }

    private static void missingIsNone(Checks checks) {
        VersionRanges x = Run.with("1.0.0", "2.0.0").x;
        int[] missing = {-1, 2, 3, 11, 12, 13, Integer.MIN_VALUE, Integer.MAX_VALUE};
        for (int k : missing) {
            checks.due("compare(" + k + ", 0)", x.compare(k, 0), VersionRanges.NONE);
            checks.due("compare(1, " + k + ")", x.compare(1, k), VersionRanges.NONE);
            checks.due("compare(" + k + ", " + k + ")", x.compare(k, k), VersionRanges.NONE);
        }
        checks.due("compare(11, 0) when full", Run.full().x.compare(11, 0), 1);
        checks.due("compare(12, 0) when full", Run.full().x.compare(12, 0), VersionRanges.NONE);
        checks.due("compare(0, -1) when full", Run.full().x.compare(0, -1), VersionRanges.NONE);
    }
}
