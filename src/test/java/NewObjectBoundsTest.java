/** The boundaries of promise 1: a new object. */
public final class NewObjectBoundsTest {
    public static void main(String[] args) {
        Cases cases = new Cases();
        cases.add("new: an empty list", NewObjectBoundsTest::emptyList);
        cases.add("new: no number of the list is there", NewObjectBoundsTest::noNumber);
        cases.add("new: an empty TAPE", checks -> Ask.tapeIsEmpty(checks, new VersionRanges()));
        cases.add("new: an empty TAPE is no range", NewObjectBoundsTest::noRange);
        cases.add("new: nothing of another object", NewObjectBoundsTest::nothingOfAnother);
        cases.add("new: 512 calls, each answered", NewObjectBoundsTest::callsUpTo512);
        cases.finish();
    }

    private static void emptyList(Checks checks) {
        checks.due("clear()", new VersionRanges().clear(), 0);
        checks.due("match *", new Run().match("*"), 0);
        checks.due("the first take", new Run().take("1.0.0"), 0);
    }

    private static void noNumber(Checks checks) {
        for (int k = -1; k <= 12; k++) {
            checks.due("rank(" + k + ")", new VersionRanges().rank(k), VersionRanges.NONE);
            checks.due("part(" + k + ", 0)", new VersionRanges().part(k, 0), VersionRanges.NONE);
            checks.due("compare(" + k + ", 0)", new VersionRanges().compare(k, 0), VersionRanges.NONE);
            checks.due("compare(0, " + k + ")", new VersionRanges().compare(0, k), VersionRanges.NONE);
        }
    }

    private static void noRange(Checks checks) {
        checks.due("match()", new VersionRanges().match(), VersionRanges.FAULT);
    }

    private static void nothingOfAnother(Checks checks) {
        Run one = Run.with("5.0.0");
        one.put("3.0.0");
        Run other = new Run();
        Ask.tapeIsEmpty(checks, other.x);
        checks.due("clear() of the other", other.x.clear(), 0);
        Ask.tapeIsStill(checks, one, "3.0.0", 1);
        Ask.listIsStill(checks, one, "5.0.0", "3.0.0");
    }

    /** Rounds of eight calls, one of each method, 64 times. */
    private static void callsUpTo512(Checks checks) {
        VersionRanges x = new VersionRanges();
        for (int round = 1; round <= 64; round++) {
            checks.due("feed in round " + round, x.feed(0x20312e32, 0x2e332020, 0, 0, 0), 20);
            checks.due("end(8) in round " + round, x.end(8), 8);
            checks.due("take() in round " + round, x.take(), 0);
            checks.due("compare(0, 0) in round " + round, x.compare(0, 0), 0);
            checks.due("part(0, 2) in round " + round, x.part(0, 2), 3);
            checks.due("rank(0) in round " + round, x.rank(0), 0);
            checks.due("match() in round " + round, x.match(), VersionRanges.FAULT);
            checks.due("clear() in round " + round, x.clear(), 1);
        }
    }
}
