/** The boundaries of promise 3: end. */
public final class EndBoundsTest {
    public static void main(String[] args) {
        Cases cases = new Cases();
        cases.add("end: n, for each n from 0 to what it has", EndBoundsTest::eachLength);
        cases.add("end: REFUSED if it has less", EndBoundsTest::refusedAbove);
        cases.add("end: REFUSED for n below 0", EndBoundsTest::refusedBelowZero);
        cases.add("end: REFUSED leaves the TAPE", EndBoundsTest::refusalLeavesTheTape);
        cases.add("end: 0 of an empty TAPE", EndBoundsTest::zeroOfNone);
        cases.add("end: 0 cuts all", EndBoundsTest::zeroCutsAll);
        cases.add("end: all that it has cuts nothing", EndBoundsTest::allCutsNothing);
        cases.add("end: the first n bytes stay", EndBoundsTest::theFirstStay);
        cases.add("end: what was cut does not come back", EndBoundsTest::cutIsGone);
        cases.add("end: 400 of a full TAPE", EndBoundsTest::fullTape);
        cases.finish();
    }

    private static void eachLength(Checks checks) {
        for (int n = 0; n <= 20; n++) {
            VersionRanges x = new VersionRanges();
            x.feed(0, 0, 0, 0, 0);
            checks.due("end(" + n + ") of 20", x.end(n), n);
            checks.due("end(" + (n + 1) + ") of " + n, x.end(n + 1), VersionRanges.REFUSED);
        }
    }

    private static void refusedAbove(Checks checks) {
        checks.due("end(1) of none", new VersionRanges().end(1), VersionRanges.REFUSED);
        int[] above = {21, 22, 40, 400, 401, Integer.MAX_VALUE};
        for (int n : above) {
            VersionRanges x = new VersionRanges();
            x.feed(0, 0, 0, 0, 0);
            checks.due("end(" + n + ") of 20", x.end(n), VersionRanges.REFUSED);
        }
    }

    private static void refusedBelowZero(Checks checks) {
        int[] below = {-1, -2, -20, -400, Integer.MIN_VALUE};
        for (int n : below) {
            VersionRanges x = new VersionRanges();
            checks.due("end(" + n + ") of none", x.end(n), VersionRanges.REFUSED);
            x.feed(0, 0, 0, 0, 0);
            checks.due("end(" + n + ") of 20", x.end(n), VersionRanges.REFUSED);
        }
    }

    private static void refusalLeavesTheTape(Checks checks) {
        int[] refused = {-1, 6, 20, 401, Integer.MIN_VALUE, Integer.MAX_VALUE};
        for (int n : refused) {
            Run run = new Run();
            run.put("1.2.3");
            checks.due("end(" + n + ") of 5", run.x.end(n), VersionRanges.REFUSED);
            Ask.tapeIsStill(checks, run, "1.2.3", 0);
        }
    }

    private static void zeroOfNone(Checks checks) {
        VersionRanges x = new VersionRanges();
        checks.due("end(0) of none", x.end(0), 0);
        checks.due("end(0) of none again", x.end(0), 0);
        Ask.tapeIsEmpty(checks, x);
    }

    private static void zeroCutsAll(Checks checks) {
        Run run = new Run();
        run.put("1.2.3");
        checks.due("end(0) of 5", run.x.end(0), 0);
        Ask.tapeIsEmpty(checks, run.x);
    }

    private static void allCutsNothing(Checks checks) {
        Run run = new Run();
        run.put("1.2.3");
        checks.due("end(5) of 5", run.x.end(5), 5);
        Ask.tapeIsStill(checks, run, "1.2.3", 0);
    }

    private static void theFirstStay(Checks checks) {
        Run run = new Run();
        run.put("1.2.345");
        checks.due("end(6) of 7", run.x.end(6), 6);
        Ask.tapeIsStill(checks, run, "1.2.34", 0);
    }

    private static void cutIsGone(Checks checks) {
        Run run = new Run();
        run.put("1.2.345");
        run.x.end(5);
        checks.due("end(7) of 5", run.x.end(7), VersionRanges.REFUSED);
        checks.due("put 9 behind", run.put("9"), 6);
        Ask.tapeIsStill(checks, run, "1.2.39", 0);
    }

    private static void fullTape(Checks checks) {
        VersionRanges x = new VersionRanges();
        for (int i = 0; i < 20; i++) {
            x.feed(0, 0, 0, 0, 0);
        }
        checks.due("end(401)", x.end(401), VersionRanges.REFUSED);
        checks.due("end(400)", x.end(400), 400);
        checks.due("end(399)", x.end(399), 399);
        checks.due("end(400) of 399", x.end(400), VersionRanges.REFUSED);
    }
}
