/** Promise 3: end. */
public final class Promise3EndTest {
    public static void main(String[] args) {
        Checks checks = new Checks();
        answersTheLength(checks);
        keepsTheFirstBytes(checks);
        refusalLeavesTheTape(checks);
        checks.finish();
    }

    private static void answersTheLength(Checks checks) {
        VersionRanges x = new VersionRanges();
        x.feed(0, 0, 0, 0, 0);
        checks.due("end(21)", x.end(21), VersionRanges.REFUSED);
        checks.due("end(20)", x.end(20), 20);
        checks.due("end(7)", x.end(7), 7);
        checks.due("end(8)", x.end(8), VersionRanges.REFUSED);
        checks.due("end(7) again", x.end(7), 7);
        checks.due("feed behind 7", x.feed(0, 0, 0, 0, 0), 27);
        checks.due("end(0)", x.end(0), 0);
        checks.due("end(1) of none", x.end(1), VersionRanges.REFUSED);
    }

    private static void keepsTheFirstBytes(Checks checks) {
        Run run = new Run();
        run.put("1.2.345");
        run.x.end(6);
        checks.due("take of 1.2.34", run.x.take(), 0);
        checks.due("part(0, 2)", run.x.part(0, 2), 34);
        run.put("1.2.3");
        run.x.end(0);
        checks.due("take of nothing", run.x.take(), VersionRanges.FAULT);
    }

    private static void refusalLeavesTheTape(Checks checks) {
        Run run = new Run();
        run.put("1.2.3");
        checks.due("end(-1)", run.x.end(-1), VersionRanges.REFUSED);
        checks.due("end(least)", run.x.end(Integer.MIN_VALUE), VersionRanges.REFUSED);
        checks.due("end(6)", run.x.end(6), VersionRanges.REFUSED);
        checks.due("end(most)", run.x.end(Integer.MAX_VALUE), VersionRanges.REFUSED);
        checks.due("end(5)", run.x.end(5), 5);
        checks.due("take()", run.x.take(), 0);
        checks.due("part(0, 2)", run.x.part(0, 2), 3);
    }
}
