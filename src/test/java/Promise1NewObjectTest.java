/** Promise 1: a new object has an empty list and TAPE. */
public final class Promise1NewObjectTest {
    public static void main(String[] args) {
        Checks checks = new Checks();
        listIsEmpty(checks);
        tapeIsEmpty(checks);
        objectsShareNothing(checks);
        checks.finish();
    }

    private static void listIsEmpty(Checks checks) {
        checks.due("new: clear()", new VersionRanges().clear(), 0);
        checks.due("new: rank(0)", new VersionRanges().rank(0), VersionRanges.NONE);
        checks.due("new: part(0, 0)", new VersionRanges().part(0, 0), VersionRanges.NONE);
        checks.due("new: compare(0, 0)", new VersionRanges().compare(0, 0), VersionRanges.NONE);
        checks.due("new: match(*)", new Run().match("*"), 0);
        checks.due("new: take(1.0.0)", new Run().take("1.0.0"), 0);
    }

    private static void tapeIsEmpty(Checks checks) {
        checks.due("new: end(1)", new VersionRanges().end(1), VersionRanges.REFUSED);
        checks.due("new: end(0)", new VersionRanges().end(0), 0);
        checks.due("new: feed", new VersionRanges().feed(0, 0, 0, 0, 0), 20);
        checks.due("new: take()", new VersionRanges().take(), VersionRanges.FAULT);
        checks.due("new: match()", new VersionRanges().match(), VersionRanges.FAULT);
    }

    private static void objectsShareNothing(Checks checks) {
        Run one = Run.with("1.0.0", "2.0.0");
        one.put("3.0.0");
        Run other = new Run();
        checks.due("other: end(1)", other.x.end(1), VersionRanges.REFUSED);
        checks.due("other: clear()", other.x.clear(), 0);
        checks.due("other: take(9.0.0)", other.take("9.0.0"), 0);
        checks.due("one: part(0, 0)", one.x.part(0, 0), 1);
        checks.due("one: take()", one.x.take(), 2);
    }
}
