/** The boundaries of promise 2: feed. */
public final class FeedBoundsTest {
    private static final int BLANKS = 0x20202020;

    public static void main(String[] args) {
        Cases cases = new Cases();
        cases.add("feed: how many bytes the TAPE has, from 20 to 400", FeedBoundsTest::upTo400);
        cases.add("feed: FULL if it would have more than 400", FeedBoundsTest::fullAbove400);
        cases.add("feed: 380 bytes leave room for 20", FeedBoundsTest::roomWith380);
        cases.add("feed: 381 bytes do not", FeedBoundsTest::noRoomWith381);
        cases.add("feed: FULL leaves the TAPE", FeedBoundsTest::fullLeavesTheTape);
        cases.add("feed: FULL as often as it is called", FeedBoundsTest::fullAgain);
        cases.add("feed: room again when the TAPE is cut", FeedBoundsTest::roomWhenCut);
        cases.add("feed: room again when the TAPE is read", FeedBoundsTest::roomWhenRead);
        cases.add("feed: behind the bytes that are there", FeedBoundsTest::behind);
        cases.add("feed: five times four, the highest of each first", FeedBoundsTest::eachOfTheTwenty);
        cases.add("feed: bytes above 127 are themselves", FeedBoundsTest::highBytes);
        cases.add("feed: every int is bytes", FeedBoundsTest::everyInt);
        cases.finish();
    }

    private static int blanks(VersionRanges x) {
        return x.feed(BLANKS, BLANKS, BLANKS, BLANKS, BLANKS);
    }

    private static VersionRanges withBlanks(int bytes) {
        VersionRanges x = new VersionRanges();
        for (int fed = 0; fed < bytes; fed += 20) {
            blanks(x);
        }
        x.end(bytes);
        return x;
    }

    private static void upTo400(Checks checks) {
        VersionRanges x = new VersionRanges();
        for (int fed = 20; fed <= 400; fed += 20) {
            checks.due("feed to " + fed, blanks(x), fed);
        }
    }

    private static void fullAbove400(Checks checks) {
        checks.due("feed to 400 bytes", blanks(withBlanks(400)), VersionRanges.FULL);
    }

    private static void roomWith380(Checks checks) {
        for (int bytes = 361; bytes <= 380; bytes++) {
            checks.due("feed to " + bytes + " bytes", blanks(withBlanks(bytes)), bytes + 20);
        }
    }

    private static void noRoomWith381(Checks checks) {
        for (int bytes = 381; bytes <= 400; bytes++) {
            checks.due("feed to " + bytes + " bytes", blanks(withBlanks(bytes)), VersionRanges.FULL);
        }
    }

    private static void fullLeavesTheTape(Checks checks) {
        Run run = new Run();
        run.put(" ".repeat(385) + "5.6.7");
        checks.due("feed to 390 bytes", run.x.feed(0x38383838, 0x38383838, 0, 0, 0), VersionRanges.FULL);
        checks.due("end(391)", run.x.end(391), VersionRanges.REFUSED);
        checks.due("end(390)", run.x.end(390), 390);
        checks.due("take()", run.x.take(), 0);
        checks.due("part(0, 2)", run.x.part(0, 2), 7);
    }

    private static void fullAgain(Checks checks) {
        VersionRanges x = withBlanks(400);
        for (int i = 0; i < 100; i++) {
            checks.due("feed to 400 bytes", blanks(x), VersionRanges.FULL);
        }
        checks.due("end(400)", x.end(400), 400);
    }

    private static void roomWhenCut(Checks checks) {
        VersionRanges x = withBlanks(400);
        checks.due("feed to 400 bytes", blanks(x), VersionRanges.FULL);
        x.end(380);
        checks.due("feed to 380 bytes", blanks(x), 400);
        x.end(0);
        checks.due("feed to none", blanks(x), 20);
    }

    private static void roomWhenRead(Checks checks) {
        VersionRanges x = withBlanks(400);
        checks.due("take() of blanks", x.take(), VersionRanges.FAULT);
        checks.due("feed after take", blanks(x), 20);
        x = withBlanks(400);
        checks.due("match() of blanks", x.match(), VersionRanges.FAULT);
        checks.due("feed after match", blanks(x), 20);
    }

    private static void behind(Checks checks) {
        for (int first = 1; first < 5; first++) {
            Run run = new Run();
            run.put("1.2.3".substring(0, first));
            checks.due("put the rest behind " + first, run.put("1.2.3".substring(first)), 5);
            checks.due("take()", run.x.take(), 0);
            checks.due("match 1.2.3", run.match("1.2.3"), 1);
        }
    }

    /** A * in one of the twenty places, with blanks in the others, is a range from that place on. */
    private static void eachOfTheTwenty(Checks checks) {
        for (int place = 0; place < 20; place++) {
            int[] fours = {BLANKS, BLANKS, BLANKS, BLANKS, BLANKS};
            int shift = 24 - 8 * (place % 4);
            fours[place / 4] = BLANKS & ~(255 << shift) | '*' << shift;
            VersionRanges x = new VersionRanges();
            x.feed(fours[0], fours[1], fours[2], fours[3], fours[4]);
            x.end(place + 1);
            checks.due("match() of byte " + place + " and those before", x.match(), 0);
            x.feed(fours[0], fours[1], fours[2], fours[3], fours[4]);
            x.end(place);
            checks.due("match() of those before byte " + place, x.match(), VersionRanges.FAULT);
        }
    }

    private static void highBytes(Checks checks) {
        for (int high = 128; high < 256; high++) {
            String odd = "" + (char) high;
            Ask.isNotTaken(checks, odd, "1.0.0" + odd, "1.0.0-" + odd, "1.0.0 " + odd);
            Ask.isNoRange(checks, odd, "*" + odd, "* " + odd);
        }
    }

    private static void everyInt(Checks checks) {
        VersionRanges x = new VersionRanges();
        int least = Integer.MIN_VALUE;
        int most = Integer.MAX_VALUE;
        checks.due("feed of the least and most", x.feed(least, most, -1, 0, 1), 20);
        checks.due("feed of all bits", x.feed(-1, -1, -1, -1, -1), 40);
        checks.due("take()", x.take(), VersionRanges.FAULT);
    }
}
