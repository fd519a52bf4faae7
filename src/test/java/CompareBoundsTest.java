/** The boundaries of promise 5: compare. */
public final class CompareBoundsTest {
    private static final int[] NEVER_THERE = {-1, -2, 12, 13, 32, Integer.MIN_VALUE, Integer.MAX_VALUE};

    public static void main(String[] args) {
        Cases cases = new Cases();
        cases.add("compare: -1 for below", checks -> answers(checks, 0, 1, -1));
        cases.add("compare: 1 for above", checks -> answers(checks, 1, 0, 1));
        cases.add("compare: 0 for the same version", checks -> answers(checks, 0, 2, 0));
        cases.add("compare: 0 for a version with itself", checks -> answers(checks, 1, 1, 0));
        cases.add("compare: -1 and 1, not more, however far they are apart", CompareBoundsTest::farApart);
        cases.add("compare: NONE if k is not there", CompareBoundsTest::missingFirst);
        cases.add("compare: NONE if j is not there", CompareBoundsTest::missingSecond);
        cases.add("compare: NONE if neither is there", CompareBoundsTest::missingBoth);
        cases.add("compare: NONE for the number behind the last", CompareBoundsTest::behindTheLast);
        cases.add("compare: the first and the last of twelve", CompareBoundsTest::firstAndLast);
        cases.add("compare: NONE after clear", CompareBoundsTest::afterClear);
        cases.finish();
    }

    private static void answers(Checks checks, int k, int j, int due) {
        VersionRanges x = Run.with("1.0.0", "1.0.1-a", "1.0.0").x;
        checks.due("compare(" + k + ", " + j + ")", x.compare(k, j), due);
        VersionRanges pre = Run.with("1.0.0-a.9", "1.0.0-a.10", "1.0.0-a.9").x;
        checks.due("compare(" + k + ", " + j + ") of PRE", pre.compare(k, j), due);
    }

    private static void farApart(Checks checks) {
        VersionRanges x = Run.with(Ask.LOWEST, Ask.HIGHEST, "1.0.0-0", "1.0.0-zzzzzzzz").x;
        checks.due("compare(0, 1)", x.compare(0, 1), -1);
        checks.due("compare(1, 0)", x.compare(1, 0), 1);
        checks.due("compare(2, 3)", x.compare(2, 3), -1);
        checks.due("compare(3, 2)", x.compare(3, 2), 1);
    }

    private static void missingFirst(Checks checks) {
        for (int k : NEVER_THERE) {
            checks.due("compare(" + k + ", 0)", Run.full().x.compare(k, 0), VersionRanges.NONE);
            checks.due("compare(" + k + ", 0) of one", Run.with("1.0.0").x.compare(k, 0), VersionRanges.NONE);
        }
    }

    private static void missingSecond(Checks checks) {
        for (int j : NEVER_THERE) {
            checks.due("compare(0, " + j + ")", Run.full().x.compare(0, j), VersionRanges.NONE);
            checks.due("compare(0, " + j + ") of one", Run.with("1.0.0").x.compare(0, j), VersionRanges.NONE);
        }
    }

    private static void missingBoth(Checks checks) {
        for (int k : NEVER_THERE) {
            for (int j : NEVER_THERE) {
                checks.due("compare(" + k + ", " + j + ")", Run.full().x.compare(k, j), VersionRanges.NONE);
            }
        }
        checks.due("compare(0, 0) of none", new VersionRanges().compare(0, 0), VersionRanges.NONE);
    }

    private static void behindTheLast(Checks checks) {
        Run run = new Run();
        for (int last = 0; last < 12; last++) {
            run.take("1.0.0");
            checks.due("compare(" + last + ", 0)", run.x.compare(last, 0), 0);
            checks.due("compare(0, " + last + ")", run.x.compare(0, last), 0);
            checks.due("compare(" + (last + 1) + ", 0)", run.x.compare(last + 1, 0), VersionRanges.NONE);
            checks.due("compare(0, " + (last + 1) + ")", run.x.compare(0, last + 1), VersionRanges.NONE);
        }
    }

    private static void firstAndLast(Checks checks) {
        VersionRanges x = Run.full().x;
        checks.due("compare(0, 11)", x.compare(0, 11), -1);
        checks.due("compare(11, 0)", x.compare(11, 0), 1);
        checks.due("compare(11, 11)", x.compare(11, 11), 0);
    }

    private static void afterClear(Checks checks) {
        VersionRanges x = Run.full().x;
        x.clear();
        checks.due("compare(0, 0)", x.compare(0, 0), VersionRanges.NONE);
        checks.due("compare(0, 11)", x.compare(0, 11), VersionRanges.NONE);
    }
}
