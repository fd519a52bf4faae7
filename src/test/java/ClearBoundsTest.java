/** The boundaries of promise 9: clear. */
public final class ClearBoundsTest {
    public static void main(String[] args) {
        Cases cases = new Cases();
        cases.add("clear: how many there were, from 0 to 12", ClearBoundsTest::howMany);
        cases.add("clear: 0 when it is called again", ClearBoundsTest::again);
        cases.add("clear: FULL and FAULT of take are not counted", ClearBoundsTest::refusalsAreNotCounted);
        cases.add("clear: the list is empty then", ClearBoundsTest::emptyThen);
        cases.add("clear: numbers begin from 0 anew", ClearBoundsTest::numbersBeginAnew);
        cases.add("clear: room for 12 then, and no more", ClearBoundsTest::roomForTwelve);
        cases.add("clear: the TAPE stays", ClearBoundsTest::tapeStays);
        cases.finish();
    }

    private static void howMany(Checks checks) {
        for (int count = 0; count <= 12; count++) {
            Run run = new Run();
            for (int k = 0; k < count; k++) {
                run.take("1.0.0");
            }
            checks.due("clear() of " + count, run.x.clear(), count);
        }
    }

    private static void again(Checks checks) {
        VersionRanges x = Run.full().x;
        x.clear();
        checks.due("clear() again", x.clear(), 0);
        checks.due("clear() once more", x.clear(), 0);
    }

    private static void refusalsAreNotCounted(Checks checks) {
        Run full = Run.full();
        full.take("1.0.0");
        full.take("1.0.0");
        checks.due("clear() after FULL", full.x.clear(), 12);
        Run run = Run.with("1.0.0");
        run.take("1.0");
        checks.due("clear() after FAULT", run.x.clear(), 1);
    }

    private static void emptyThen(Checks checks) {
        Run run = Run.full();
        run.x.clear();
        for (int k = 0; k < 12; k++) {
            checks.due("rank(" + k + ")", run.x.rank(k), VersionRanges.NONE);
            checks.due("part(" + k + ", 0)", run.x.part(k, 0), VersionRanges.NONE);
            checks.due("compare(" + k + ", " + k + ")", run.x.compare(k, k), VersionRanges.NONE);
        }
        checks.due("match *", run.match("*"), 0);
    }

    private static void numbersBeginAnew(Checks checks) {
        Run run = Run.with("1.0.0-a.b.c", "2.0.0");
        run.x.clear();
        checks.due("take 3.0.0", run.take("3.0.0"), 0);
        checks.due("part(0, 0)", run.x.part(0, 0), 3);
        checks.due("part(0, 3)", run.x.part(0, 3), 0);
        checks.due("part(1, 0)", run.x.part(1, 0), VersionRanges.NONE);
    }

    private static void roomForTwelve(Checks checks) {
        Run run = Run.full();
        run.x.clear();
        for (int k = 0; k < 12; k++) {
            checks.due("take number " + k, run.take("1.0.0"), k);
        }
        checks.due("take a thirteenth", run.take("1.0.0"), VersionRanges.FULL);
    }

    private static void tapeStays(Checks checks) {
        Run run = Run.full();
        run.put("4.5.6-a");
        checks.due("clear() with a tape", run.x.clear(), 12);
        Ask.tapeIsStill(checks, run, "4.5.6-a", 0);
    }
}
