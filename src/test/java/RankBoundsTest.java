/** The boundaries of promise 7: rank. */
public final class RankBoundsTest {
    public static void main(String[] args) {
        Cases cases = new Cases();
        cases.add("rank: 0 for one alone", RankBoundsTest::oneAlone);
        cases.add("rank: 0 for the lowest, 11 for the highest of twelve", RankBoundsTest::lowestAndHighest);
        cases.add("rank: the same are not below", RankBoundsTest::sameAreNotBelow);
        cases.add("rank: by precedence, PRE too", RankBoundsTest::byPrecedence);
        cases.add("rank: versions behind k count as those before", RankBoundsTest::beforeAndBehind);
        cases.add("rank: NONE if there is none", RankBoundsTest::missing);
        cases.add("rank: NONE for the number behind the last", RankBoundsTest::behindTheLast);
        cases.add("rank: NONE after clear, and none of the old count", RankBoundsTest::afterClear);
        cases.finish();
    }

    private static void ranks(Checks checks, VersionRanges x, int... due) {
        for (int k = 0; k < due.length; k++) {
            checks.due("rank(" + k + ")", x.rank(k), due[k]);
        }
    }

    private static void oneAlone(Checks checks) {
        ranks(checks, Run.with(Ask.LOWEST).x, 0);
        ranks(checks, Run.with(Ask.HIGHEST).x, 0);
    }

    private static void lowestAndHighest(Checks checks) {
        ranks(checks, Run.full().x, 0, 1, 2, 3, 4, 5, 6, 7, 8, 9, 10, 11);
        Run falling = new Run();
        for (int k = 11; k >= 0; k--) {
            falling.take("1." + k + ".0");
        }
        ranks(checks, falling.x, 11, 10, 9, 8, 7, 6, 5, 4, 3, 2, 1, 0);
    }

    private static void sameAreNotBelow(Checks checks) {
        ranks(checks, Run.with("1.0.0", "1.0.0").x, 0, 0);
        ranks(checks, Run.with("2.0.0", "1.0.0", "2.0.0", "1.0.0").x, 2, 0, 2, 0);
        ranks(checks, Run.with("1.0.0-a", "1.0.0", "1.0.0-a").x, 0, 2, 0);
        Run twelve = new Run();
        for (int k = 0; k < 12; k++) {
            twelve.take("1.0.0");
        }
        ranks(checks, twelve.x, 0, 0, 0, 0, 0, 0, 0, 0, 0, 0, 0, 0);
    }

    private static void byPrecedence(Checks checks) {
        ranks(checks, Run.with("1.0.0", "1.0.0-a", "1.0.0-9", "1.0.0-10", "1.0.0-a.0").x, 4, 2, 0, 1, 3);
    }

    private static void beforeAndBehind(Checks checks) {
        ranks(checks, Run.with("1.0.0", "2.0.0", "0.5.0").x, 1, 2, 0);
        ranks(checks, Run.with("0.5.0", "2.0.0", "1.0.0").x, 0, 2, 1);
    }

    private static void missing(Checks checks) {
        int[] neverThere = {-1, -2, 12, 13, Integer.MIN_VALUE, Integer.MAX_VALUE};
        for (int k : neverThere) {
            checks.due("rank(" + k + ")", Run.full().x.rank(k), VersionRanges.NONE);
        }
        checks.due("rank(0) of none", new VersionRanges().rank(0), VersionRanges.NONE);
    }

    private static void behindTheLast(Checks checks) {
        Run run = new Run();
        for (int last = 0; last < 12; last++) {
            run.take("1.0." + last);
            checks.due("rank(" + last + ")", run.x.rank(last), last);
            checks.due("rank(" + (last + 1) + ")", run.x.rank(last + 1), VersionRanges.NONE);
        }
    }

    private static void afterClear(Checks checks) {
        Run run = Run.full();
        run.x.clear();
        checks.due("rank(0) after clear", run.x.rank(0), VersionRanges.NONE);
        run.take("99.0.0");
        checks.due("rank(0) of the new one", run.x.rank(0), 0);
        checks.due("rank(1)", run.x.rank(1), VersionRanges.NONE);
    }
}
