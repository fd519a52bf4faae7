/** The boundaries of THE LIST. */
public final class ListBoundsTest {
    public static void main(String[] args) {
        Cases cases = new Cases();
        cases.add("LIST: none at first", checks -> Ask.listIsStill(checks, new Run()));
        cases.add("LIST: numbered from 0", ListBoundsTest::numberedFromZero);
        cases.add("LIST: up to 12", ListBoundsTest::upToTwelve);
        cases.add("LIST: not 13", ListBoundsTest::notThirteen);
        cases.add("LIST: the same version may stand in it twice", ListBoundsTest::theSameTwice);
        cases.add("LIST: twelve of the longest versions", ListBoundsTest::twelveOfTheLongest);
        cases.add("LIST: calls that are refused leave it", ListBoundsTest::refusalsLeaveIt);
        cases.finish();
    }

    private static void numberedFromZero(Checks checks) {
        Run run = new Run();
        checks.due("the first", run.take("7.0.0"), 0);
        checks.due("the second", run.take("6.0.0"), 1);
        checks.due("part(0, 0)", run.x.part(0, 0), 7);
        checks.due("part(1, 0)", run.x.part(1, 0), 6);
        checks.due("match 7.0.0", run.match("7.0.0"), 1);
        checks.due("match 6.0.0", run.match("6.0.0"), 2);
    }

    private static void upToTwelve(Checks checks) {
        Run run = new Run();
        for (int k = 0; k < 12; k++) {
            checks.due("take number " + k, run.take(k + ".1.2"), k);
            checks.due("rank(" + k + ")", run.x.rank(k), k);
        }
        checks.due("clear()", run.x.clear(), 12);
    }

    private static void notThirteen(Checks checks) {
        Run run = Run.full();
        checks.due("take a thirteenth", run.take("12.0.0"), VersionRanges.FULL);
        checks.due("take a thirteenth again", run.take("0.0.0"), VersionRanges.FULL);
        checks.due("rank(12)", run.x.rank(12), VersionRanges.NONE);
        checks.due("match *", run.match("*"), 4095);
        checks.due("clear()", run.x.clear(), 12);
    }

    private static void theSameTwice(Checks checks) {
        Run run = Run.with("1.0.0", "1.0.0", "1.0.0");
        checks.due("match 1.0.0", run.match("1.0.0"), 7);
        checks.due("clear()", run.x.clear(), 3);
    }

    private static void twelveOfTheLongest(Checks checks) {
        String[] versions = new String[12];
        for (int k = 0; k < 12; k++) {
            versions[k] = Ask.HIGHEST + "-abcdefgh.abcdefgh.abcdefgh.abcdefg" + (char) ('a' + k);
        }
        Run run = Run.with(versions);
        for (int k = 0; k < 12; k++) {
            checks.due("match " + versions[k], run.match(versions[k]), 1 << k);
            checks.due("rank(" + k + ")", run.x.rank(k), k);
            checks.due("part(" + k + ", 3)", run.x.part(k, 3), 35);
        }
    }

    private static void refusalsLeaveIt(Checks checks) {
        Run run = Run.with("3.0.0", "1.0.0-a.b", "2.0.0");
        run.take("9.9");
        run.take("9.9.9 8.8.8");
        run.take("9.9.9-z.");
        run.take("");
        run.match("x");
        run.match("^9.9.9 || ~8.8.8-z || needs");
        run.x.compare(0, 3);
        run.x.part(0, 4);
        run.x.part(3, 0);
        run.x.rank(-1);
        run.x.end(-1);
        Ask.listIsStill(checks, run, "3.0.0", "1.0.0-a.b", "2.0.0");
    }
}
