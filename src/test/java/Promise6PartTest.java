/** Promise 6: part. */
public final class Promise6PartTest {
    public static void main(String[] args) {
        Checks checks = new Checks();
        numbersAndBytes(checks);
        refusedComesFirst(checks);
        missingIsNone(checks);
        readingChangesNothing(checks);
        checks.finish();
    }

    private static void parts(Checks checks, String text, int major, int minor, int patch, int pre) {
        VersionRanges x = Run.with("7.7.7-seven.7", text).x;
        checks.due("major of " + text, x.part(1, 0), major);
        checks.due("minor of " + text, x.part(1, 1), minor);
        checks.due("patch of " + text, x.part(1, 2), patch);
        checks.due("bytes of PRE of " + text, x.part(1, 3), pre);
    }

    private static void numbersAndBytes(Checks checks) {
        parts(checks, "0.0.0", 0, 0, 0, 0);
        parts(checks, "1.2.3", 1, 2, 3, 0);
        parts(checks, "12.345.6789-a", 12, 345, 6789, 1);
        parts(checks, "999999999.999999998.999999997--", 999999999, 999999998, 999999997, 1);
        parts(checks, "  4.5.6-a.b.c.d  ", 4, 5, 6, 7);
        parts(checks, "4.5.6-12345678", 4, 5, 6, 8);
        parts(checks, "4.5.6-a-b--", 4, 5, 6, 5);
        parts(checks, "4.5.6-" + Run.LONGEST_PRE, 4, 5, 6, 35);
    }

    private static void refusedComesFirst(Checks checks) {
        VersionRanges x = Run.with("1.2.3").x;
        int[] others = {-1, 4, 5, Integer.MIN_VALUE, Integer.MAX_VALUE};
        for (int which : others) {
            checks.due("part(0, " + which + ")", x.part(0, which), VersionRanges.REFUSED);
            checks.due("part(1, " + which + ")", x.part(1, which), VersionRanges.REFUSED);
            checks.due("part(-1, " + which + ")", x.part(-1, which), VersionRanges.REFUSED);
        }
    }

    private static void missingIsNone(Checks checks) {
        VersionRanges x = Run.with("1.2.3").x;
        int[] missing = {-1, 1, 11, 12, Integer.MIN_VALUE, Integer.MAX_VALUE};
        for (int k : missing) {
            for (int which = 0; which < 4; which++) {
                checks.due("part(" + k + ", " + which + ")", x.part(k, which), VersionRanges.NONE);
            }
        }
        checks.due("part(11, 0) when full", Run.full().x.part(11, 0), 11);
        checks.due("part(12, 0) when full", Run.full().x.part(12, 0), VersionRanges.NONE);
    }

    private static void readingChangesNothing(Checks checks) {
        Run run = Run.with("1.2.3-ab");
        run.put("4.5.6");
        run.x.part(0, 0);
        run.x.part(5, 0);
        run.x.part(0, 9);
        checks.due("part(0, 3) again", run.x.part(0, 3), 2);
        checks.due("end(5) after part", run.x.end(5), 5);
        checks.due("take() after part", run.x.take(), 1);
    }
}
