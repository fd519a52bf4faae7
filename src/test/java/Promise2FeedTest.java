/** Promise 2: feed. */
public final class Promise2FeedTest {
    public static void main(String[] args) {
        Checks checks = new Checks();
        bytesComeInOrder(checks);
        bytesComeBehindThoseThere(checks);
        highBytesAreNoOthers(checks);
        holdsJust400(checks);
        fullLeavesTheTape(checks);
        roomCountsWhatWasCut(checks);
        checks.finish();
    }

    private static void bytesComeInOrder(Checks checks) {
        VersionRanges x = new VersionRanges();
        // 1.23.456-abcd.efgh.i
        checks.due("feed", x.feed(0x312e3233, 0x2e343536, 0x2d616263, 0x642e6566, 0x67682e69), 20);
        checks.due("take()", x.take(), 0);
        checks.due("part(0, 0)", x.part(0, 0), 1);
        checks.due("part(0, 1)", x.part(0, 1), 23);
        checks.due("part(0, 2)", x.part(0, 2), 456);
        checks.due("part(0, 3)", x.part(0, 3), 11);
        Run run = Run.with("1.23.456-abcd.efgh.i");
        run.put("=1.23.456-abcd.efgh.i");
        checks.due("match the same", run.x.match(), 1);
    }

    private static void bytesComeBehindThoseThere(Checks checks) {
        VersionRanges x = new VersionRanges();
        checks.due("feed 12", x.feed(0x31320000, 0, 0, 0, 0), 20);
        checks.due("end(2)", x.end(2), 2);
        checks.due("feed 3.4.5", x.feed(0x332e342e, 0x35000000, 0, 0, 0), 22);
        checks.due("end(7)", x.end(7), 7);
        checks.due("take()", x.take(), 0);
        checks.due("part(0, 0)", x.part(0, 0), 123);
        checks.due("part(0, 1)", x.part(0, 1), 4);
        checks.due("part(0, 2)", x.part(0, 2), 5);
    }

    private static void highBytesAreNoOthers(Checks checks) {
        for (int high = 128; high < 256; high++) {
            checks.due("take 1.0.0-" + high, new Run().take("1.0.0-" + (char) high), VersionRanges.FAULT);
        }
        checks.due("all bits", new VersionRanges().feed(-1, -1, -1, -1, -1), 20);
    }

    private static void holdsJust400(Checks checks) {
        VersionRanges x = new VersionRanges();
        for (int fed = 20; fed <= 400; fed += 20) {
            checks.due("feed to " + fed, x.feed(1, 2, 3, 4, 5), fed);
        }
        checks.due("feed above 400", x.feed(1, 2, 3, 4, 5), VersionRanges.FULL);
        checks.due("feed above 400 again", x.feed(1, 2, 3, 4, 5), VersionRanges.FULL);
        checks.due("end(400)", x.end(400), 400);
    }

    private static void fullLeavesTheTape(Checks checks) {
        Run run = new Run();
        String blanks = " ".repeat(390);
        checks.due("put 390 and 5.6.7", run.put(blanks + "5.6.7"), 395);
        checks.due("feed with 395", run.x.feed(0x39393939, 0, 0, 0, 0), VersionRanges.FULL);
        checks.due("end(396)", run.x.end(396), VersionRanges.REFUSED);
        checks.due("take()", run.x.take(), 0);
        checks.due("part(0, 0)", run.x.part(0, 0), 5);
        checks.due("part(0, 2)", run.x.part(0, 2), 7);
    }

    private static void roomCountsWhatWasCut(Checks checks) {
        Run run = new Run();
        run.put(" ".repeat(400));
        run.x.end(381);
        checks.due("feed with 381", run.x.feed(0, 0, 0, 0, 0), VersionRanges.FULL);
        run.x.end(380);
        checks.due("feed with 380", run.x.feed(0x20202020, 0x20202020, 0x20202020, 0x2020352e, 0x302e3120), 400);
        checks.due("take()", run.x.take(), 0);
        checks.due("part(0, 0)", run.x.part(0, 0), 5);
        checks.due("feed after take", run.x.feed(0, 0, 0, 0, 0), 20);
    }
}
