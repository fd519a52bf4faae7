/** The boundaries of promise 8: match. */
public final class MatchBoundsTest {
    public static void main(String[] args) {
        Cases cases = new Cases();
        cases.add("match: bit k 1 for version k, each of the twelve", MatchBoundsTest::eachBit);
        cases.add("match: no bit above the last version's", MatchBoundsTest::noBitAbove);
        cases.add("match: 0 if no version is in the range", MatchBoundsTest::noneInRange);
        cases.add("match: 0 with an empty list", MatchBoundsTest::emptyList);
        cases.add("match: FAULT if the TAPE is empty", MatchBoundsTest::emptyTape);
        cases.add("match: FAULT if the TAPE is no range", MatchBoundsTest::noRange);
        cases.add("match: FAULT with an empty list too", MatchBoundsTest::faultOfEmptyList);
        cases.add("match: FAULT for a fault in the last word", MatchBoundsTest::faultAtTheEnd);
        cases.add("match: FAULT though no version could be in it", MatchBoundsTest::faultWhereNoneIs);
        cases.add("match: the list stays", MatchBoundsTest::listStays);
        cases.add("match: nothing of the range before comes along", MatchBoundsTest::nothingOfBefore);
        cases.add("match: no bit of versions that were cleared", MatchBoundsTest::afterClear);
        cases.finish();
    }

    private static void eachBit(Checks checks) {
        Run run = Run.full();
        for (int k = 0; k < 12; k++) {
            checks.due("match " + k + ".0.0", run.match(k + ".0.0"), 1 << k);
        }
        checks.due("match >0.0.0 <11.0.0", run.match(">0.0.0 <11.0.0"), 2046);
        checks.due("match 0.0.0 || 11.0.0", run.match("0.0.0 || 11.0.0"), 2049);
    }

    private static void noBitAbove(Checks checks) {
        Run run = new Run();
        for (int count = 1; count <= 12; count++) {
            run.take("1.0.0");
            checks.due("match * of " + count, run.match("*"), (1 << count) - 1);
            checks.due("match >=0.0.0 of " + count, run.match(">=0.0.0"), (1 << count) - 1);
        }
    }

    private static void noneInRange(Checks checks) {
        checks.due("match 12.0.0", Run.full().match("12.0.0"), 0);
        checks.due("match >11.0.0", Run.full().match(">11.0.0"), 0);
        checks.due("match <0.0.0", Run.full().match("<0.0.0"), 0);
        checks.due("match <5.0.0 >5.0.0", Run.full().match("<5.0.0 >5.0.0"), 0);
    }

    private static void emptyList(Checks checks) {
        Ask.isRange(checks, "*", "1.0.0", ">=0.0.0-0", "* || *");
    }

    private static void emptyTape(Checks checks) {
        VersionRanges x = Run.full().x;
        checks.due("match()", x.match(), VersionRanges.FAULT);
        checks.due("match() again", x.match(), VersionRanges.FAULT);
    }

    private static void noRange(Checks checks) {
        Ask.isNoRange(checks, "x", "1.0", "||", "<", "**", "* x", "x *", "\0", "1.0.0 ||", "* needs");
    }

    private static void faultOfEmptyList(Checks checks) {
        for (String text : new String[] {"", "x", "* ||", "* * * * *", "1.0.0 x"}) {
            checks.due("match '" + text + "'", new Run().match(text), VersionRanges.FAULT);
        }
    }

    private static void faultAtTheEnd(Checks checks) {
        Ask.isNoRange(checks, "* * * x", "* || * || * || x", "* || * || * || * * * 1.0", "* || 1.0.0-");
    }

    private static void faultWhereNoneIs(Checks checks) {
        Ask.isNoRange(checks, "<0.0.0-0 x", "<0.0.0-0 || x", "<0.0.0-0 <", "9.0.0 8.0.0 7.0.0 6.0.0 5.0.0");
    }

    private static void listStays(Checks checks) {
        Run run = Run.with("3.0.0", "1.0.0-a.b", "2.0.0");
        run.match("*");
        run.match("^9.9.9 <8.8.8-z || ~7.7.7");
        run.match("x");
        Ask.listIsStill(checks, run, "3.0.0", "1.0.0-a.b", "2.0.0");
    }

    private static void nothingOfBefore(Checks checks) {
        Run run = Run.with("1.0.0", "1.5.0", "2.0.0");
        checks.due("match ^1.0.0", run.match("^1.0.0"), 3);
        checks.due("match >=1.0.0", run.match(">=1.0.0"), 7);
        checks.due("match ~1.5.0", run.match("~1.5.0"), 2);
        checks.due("match *", run.match("*"), 7);
        checks.due("match 1.0.0-a.b.c.d", run.match("1.0.0-a.b.c.d"), 0);
        checks.due("match 1.0.0", run.match("1.0.0"), 1);
    }

    private static void afterClear(Checks checks) {
        Run run = Run.full();
        run.x.clear();
        checks.due("match * after clear", run.match("*"), 0);
        run.take("5.0.0");
        checks.due("match * of the new one", run.match("*"), 1);
        checks.due("match 0.0.0", run.match("0.0.0"), 0);
    }
}
