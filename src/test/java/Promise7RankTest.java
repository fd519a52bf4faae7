/** Promise 7: rank. */
public final class Promise7RankTest {
    public static void main(String[] args) {
        Checks checks = new Checks();
        countsThoseBelow(checks);
        sameDoNotCount(checks);
        missingIsNone(checks);
        readingChangesNothing(checks);
        checks.finish();
    }

    private static void ranks(Checks checks, VersionRanges x, int... due) {
        for (int k = 0; k < due.length; k++) {
            checks.due("rank(" + k + ")", x.rank(k), due[k]);
        }
    }

    private static void countsThoseBelow(Checks checks) {
        ranks(checks, Run.with("1.0.0").x, 0);
        ranks(checks, Run.with("3.0.0", "1.0.0", "2.0.0").x, 2, 0, 1);
        ranks(checks, Run.with("1.0.0", "1.0.0-b", "1.0.0-a.1", "1.0.0-a", "1.0.0-1").x, 4, 3, 2, 1, 0);
        ranks(checks, Run.full().x, 0, 1, 2, 3, 4, 5, 6, 7, 8, 9, 10, 11);
    }

    private static void sameDoNotCount(Checks checks) {
        ranks(checks, Run.with("1.0.0", "1.0.0", "1.0.0").x, 0, 0, 0);
        ranks(checks, Run.with("2.0.0", "1.0.0", "2.0.0", "1.0.0", "2.0.0-a").x, 3, 0, 3, 0, 2);
    }

    private static void missingIsNone(Checks checks) {
        VersionRanges x = Run.with("1.0.0", "2.0.0").x;
        int[] missing = {-1, 2, 11, 12, 13, Integer.MIN_VALUE, Integer.MAX_VALUE};
        for (int k : missing) {
            checks.due("rank(" + k + ")", x.rank(k), VersionRanges.NONE);
        }
        checks.due("rank(12) when full", Run.full().x.rank(12), VersionRanges.NONE);
        checks.due("rank(-1) when full", Run.full().x.rank(-1), VersionRanges.NONE);
    }

    private static void readingChangesNothing(Checks checks) {
        Run run = Run.with("3.0.0", "1.0.0", "2.0.0");
        run.put("4.0.0");
        run.x.rank(0);
        run.x.compare(0, 1);
        checks.due("part(0, 0) after rank", run.x.part(0, 0), 3);
        checks.due("part(1, 0) after rank", run.x.part(1, 0), 1);
        checks.due("end(5) after rank", run.x.end(5), 5);
        checks.due("take() after rank", run.x.take(), 3);
        ranks(checks, run.x, 2, 0, 1, 3);
    }
}
