/** Promise 9: clear. */
public final class Promise9ClearTest {
    public static void main(String[] args) {
        Checks checks = new Checks();
        answersHowManyThereWere(checks);
        listIsEmptyThen(checks);
        tapeStays(checks);
        nothingOfTheOldVersionsStays(checks);
        checks.finish();
    }

    private static void answersHowManyThereWere(Checks checks) {
        checks.due("clear() of none", new VersionRanges().clear(), 0);
        VersionRanges x = Run.with("1.0.0", "1.0.0", "2.0.0").x;
        checks.due("clear() of three", x.clear(), 3);
        checks.due("clear() again", x.clear(), 0);
        checks.due("clear() of twelve", Run.full().x.clear(), 12);
    }

    private static void listIsEmptyThen(Checks checks) {
        Run run = Run.full();
        run.x.clear();
        checks.due("rank(0)", run.x.rank(0), VersionRanges.NONE);
        checks.due("part(0, 0)", run.x.part(0, 0), VersionRanges.NONE);
        checks.due("part(0, 4)", run.x.part(0, 4), VersionRanges.REFUSED);
        checks.due("compare(0, 0)", run.x.compare(0, 0), VersionRanges.NONE);
        checks.due("match(*)", run.match("*"), 0);
        for (int k = 0; k < 12; k++) {
            checks.due("take number " + k + " anew", run.take("5.0." + k), k);
        }
        checks.due("take a thirteenth", run.take("5.0.12"), VersionRanges.FULL);
    }

    private static void tapeStays(Checks checks) {
        Run run = Run.with("1.0.0");
        run.put("4.5.6");
        checks.due("clear() with a tape", run.x.clear(), 1);
        checks.due("end(6)", run.x.end(6), VersionRanges.REFUSED);
        checks.due("end(5)", run.x.end(5), 5);
        checks.due("take()", run.x.take(), 0);
        checks.due("part(0, 2)", run.x.part(0, 2), 6);
    }

    private static void nothingOfTheOldVersionsStays(Checks checks) {
        Run run = Run.with("1.0.0-a.b.c.d", "0.0.1-9");
        run.x.clear();
        run.take("1.0.0-a");
        run.take("0.0.1");
        checks.due("part(0, 3)", run.x.part(0, 3), 1);
        checks.due("part(1, 3)", run.x.part(1, 3), 0);
        checks.due("match(=1.0.0-a)", run.match("=1.0.0-a"), 1);
        checks.due("match(=0.0.1)", run.match("=0.0.1"), 2);
        checks.due("rank(0)", run.x.rank(0), 1);
    }
}
