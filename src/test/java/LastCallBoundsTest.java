import java.util.function.ToIntFunction;

/** The boundary of "at most 512 calls": each method is still answered by the words of its promise in the last one. */
public final class LastCallBoundsTest {
    private static final int MOST_CALLS = 512;

    public static void main(String[] args) {
        Cases cases = new Cases();
        cases.add("512 calls: feed", checks -> lastIs(checks, "feed", x -> x.feed(1, 2, 3, 4, 5), VersionRanges.FULL));
        cases.add("512 calls: end", LastCallBoundsTest::end);
        cases.add("512 calls: take", checks -> lastIs(checks, "take", VersionRanges::take, VersionRanges.FAULT));
        cases.add("512 calls: compare", LastCallBoundsTest::compare);
        cases.add("512 calls: part", LastCallBoundsTest::part);
        cases.add("512 calls: rank", LastCallBoundsTest::rank);
        cases.add("512 calls: match", checks -> lastIs(checks, "match", VersionRanges::match, VersionRanges.FAULT));
        cases.add("512 calls: clear", checks -> lastIs(checks, "clear", VersionRanges::clear, 0));
        cases.add("512 calls: a version is taken in the last", LastCallBoundsTest::takesInTheLast);
        cases.add("512 calls: a range is matched in the last", LastCallBoundsTest::matchesInTheLast);
        cases.add("512 calls: the list is cleared in the last", LastCallBoundsTest::clearsInTheLast);
        cases.add("512 calls: the TAPE is fed in the last", LastCallBoundsTest::feedsInTheLast);
        cases.finish();
    }

    /** All 512 calls are this one, and the last answers what is due. */
    private static void lastIs(Checks checks, String name, ToIntFunction<VersionRanges> call, int due) {
        VersionRanges x = new VersionRanges();
        repeat(x, call, MOST_CALLS - 1);
        checks.due("call 512, " + name, call.applyAsInt(x), due);
    }

    /** The first six calls make a list of two, all others are this one, and each of them answers the same. */
    private static void staysWithTwo(Checks checks, String name, ToIntFunction<VersionRanges> call, int due) {
        VersionRanges x = Run.with("2.0.0", "1.0.7").x;
        for (int n = 7; n <= MOST_CALLS; n++) {
            checks.due("call " + n + ", " + name, call.applyAsInt(x), due);
        }
    }

    private static void repeat(VersionRanges x, ToIntFunction<VersionRanges> call, int times) {
        for (int n = 0; n < times; n++) {
            call.applyAsInt(x);
        }
    }

    private static void end(Checks checks) {
        VersionRanges x = new VersionRanges();
        x.feed(0, 0, 0, 0, 0);
        repeat(x, y -> y.end(20), MOST_CALLS - 2);
        checks.due("call 512, end(19)", x.end(19), 19);
    }

    private static void compare(Checks checks) {
        staysWithTwo(checks, "compare(0, 1)", x -> x.compare(0, 1), 1);
        staysWithTwo(checks, "compare(1, 0)", x -> x.compare(1, 0), -1);
        staysWithTwo(checks, "compare(1, 1)", x -> x.compare(1, 1), 0);
        staysWithTwo(checks, "compare(1, 2)", x -> x.compare(1, 2), VersionRanges.NONE);
    }

    private static void part(Checks checks) {
        staysWithTwo(checks, "part(1, 2)", x -> x.part(1, 2), 7);
        staysWithTwo(checks, "part(2, 2)", x -> x.part(2, 2), VersionRanges.NONE);
        staysWithTwo(checks, "part(1, 4)", x -> x.part(1, 4), VersionRanges.REFUSED);
    }

    private static void rank(Checks checks) {
        staysWithTwo(checks, "rank(0)", x -> x.rank(0), 1);
        staysWithTwo(checks, "rank(1)", x -> x.rank(1), 0);
        staysWithTwo(checks, "rank(2)", x -> x.rank(2), VersionRanges.NONE);
    }

    /** Calls 1 to 509 clear, and two feed and end the tape: what is left is the last one. */
    private static Run beforeTheLast(String text) {
        Run run = new Run();
        repeat(run.x, VersionRanges::clear, MOST_CALLS - 3);
        run.put(text);
        return run;
    }

    private static void takesInTheLast(Checks checks) {
        checks.due("call 512, take()", beforeTheLast("1.2.3-rc.1").x.take(), 0);
        checks.due("call 512, take() of no version", beforeTheLast("1.2").x.take(), VersionRanges.FAULT);
    }

    private static void matchesInTheLast(Checks checks) {
        checks.due("call 512, match() of none", beforeTheLast("^1.0.0 || *").x.match(), 0);
        Run two = Run.with("2.0.0", "1.0.7");
        repeat(two.x, x -> x.rank(0), MOST_CALLS - 9);
        two.put("^1.0.0");
        checks.due("call 512, match()", two.x.match(), 2);
    }

    private static void clearsInTheLast(Checks checks) {
        Run two = Run.with("2.0.0", "1.0.7");
        repeat(two.x, x -> x.rank(0), MOST_CALLS - 7);
        checks.due("call 512, clear()", two.x.clear(), 2);
    }

    private static void feedsInTheLast(Checks checks) {
        VersionRanges x = new VersionRanges();
        repeat(x, VersionRanges::match, MOST_CALLS - 1);
        checks.due("call 512, feed", x.feed(0, 0, 0, 0, 0), 20);
    }
}
