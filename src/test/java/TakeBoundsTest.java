/** The boundaries of promise 4: take. */
public final class TakeBoundsTest {
    public static void main(String[] args) {
        Cases cases = new Cases();
        cases.add("take: its number, from 0 to 11", TakeBoundsTest::numbers);
        cases.add("take: FAULT if the TAPE is empty", TakeBoundsTest::emptyTape);
        cases.add("take: FAULT if the TAPE is no version", TakeBoundsTest::noVersion);
        cases.add("take: FAULT if the TAPE has more words", TakeBoundsTest::moreWords);
        cases.add("take: FAULT if the TAPE is a range", TakeBoundsTest::ranges);
        cases.add("take: FAULT leaves the list", TakeBoundsTest::faultLeavesTheList);
        cases.add("take: FULL with 12", TakeBoundsTest::fullWithTwelve);
        cases.add("take: no FULL with 11", TakeBoundsTest::notFullWithEleven);
        cases.add("take: FULL leaves the list", TakeBoundsTest::fullLeavesTheList);
        cases.add("take: FAULT with 12 if the TAPE is no version", TakeBoundsTest::faultWithTwelve);
        cases.add("take: room again after clear", TakeBoundsTest::roomAfterClear);
        cases.add("take: nothing of the TAPE before comes along", TakeBoundsTest::nothingOfBefore);
        cases.finish();
    }

    private static void numbers(Checks checks) {
        Run run = new Run();
        for (int k = 0; k < 12; k++) {
            checks.due("take number " + k, run.take("1.0." + (11 - k)), k);
        }
        for (int k = 0; k < 12; k++) {
            checks.due("part(" + k + ", 2)", run.x.part(k, 2), 11 - k);
        }
    }

    private static void emptyTape(Checks checks) {
        VersionRanges x = new VersionRanges();
        checks.due("take()", x.take(), VersionRanges.FAULT);
        checks.due("take() again", x.take(), VersionRanges.FAULT);
        checks.due("clear()", x.clear(), 0);
    }

    private static void noVersion(Checks checks) {
        Ask.isNotTaken(checks, "x", "1", "1.0", "1.0.0.0", "1.0.0-", "01.0.0", "1000000000.0.0",
                "1.0.0-abcdefghi", "\0");
    }

    private static void moreWords(Checks checks) {
        Ask.isNotTaken(checks, "1.0.0 1.0.0", "1.0.0 x", "x 1.0.0", "1.0.0 *", "* 1.0.0", "1.0.0  1", " 1.0.0 \0 ");
        Ask.isNotTaken(checks, "1.0.0 1.0.0 1.0.0", "1.0.0" + " ".repeat(394) + "1", "1" + " ".repeat(394) + "1.0.0");
    }

    private static void ranges(Checks checks) {
        Ask.isNotTaken(checks, "*", "=1.0.0", "<1.0.0", "^1.0.0", "~1.0.0", "1.0.0 || 1.0.0", "||", "1.0.0 ||");
    }

    private static void faultLeavesTheList(Checks checks) {
        Run run = Run.with("1.2.3-abc.4", "2.0.0");
        checks.due("take 9.9.9-z.", run.take("9.9.9-z."), VersionRanges.FAULT);
        checks.due("take 9.9", run.take("9.9"), VersionRanges.FAULT);
        checks.due("take 9.9.9 9.9.9", run.take("9.9.9 9.9.9"), VersionRanges.FAULT);
        checks.due("take 3.0.0", run.take("3.0.0"), 2);
        Ask.listIsStill(checks, run, "1.2.3-abc.4", "2.0.0", "3.0.0");
    }

    private static void fullWithTwelve(Checks checks) {
        Run run = Run.full();
        checks.due("take a thirteenth", run.take("99.0.0"), VersionRanges.FULL);
        checks.due("take one that is there", run.take("5.0.0"), VersionRanges.FULL);
        checks.due("take with PRE", run.take(" 1.0.0-a.b.c.d "), VersionRanges.FULL);
    }

    private static void notFullWithEleven(Checks checks) {
        Run run = new Run();
        for (int k = 0; k < 11; k++) {
            run.take(k + ".0.0");
        }
        checks.due("take the twelfth", run.take("11.0.0"), 11);
    }

    private static void fullLeavesTheList(Checks checks) {
        Run run = Run.full();
        run.take("0.0.0");
        run.take("99.0.0-z");
        Ask.listIsStill(checks, run, "0.0.0", "1.0.0", "2.0.0", "3.0.0", "4.0.0", "5.0.0", "6.0.0", "7.0.0", "8.0.0",
                "9.0.0", "10.0.0", "11.0.0");
    }

    private static void faultWithTwelve(Checks checks) {
        Run run = Run.full();
        for (String text : new String[] {"", " ", "x", "1.0", "1.0.0 1.0.0", "1.0.0-", "*"}) {
            checks.due("take '" + text + "' with 12", run.take(text), VersionRanges.FAULT);
        }
    }

    private static void roomAfterClear(Checks checks) {
        Run run = Run.full();
        checks.due("take with 12", run.take("1.0.0"), VersionRanges.FULL);
        run.x.clear();
        checks.due("take after clear", run.take("1.0.0"), 0);
    }

    private static void nothingOfBefore(Checks checks) {
        Run run = new Run();
        run.take("123456789.123456789.123456789-" + Run.LONGEST_PRE);
        run.take("1.2.3");
        checks.due("part(1, 0)", run.x.part(1, 0), 1);
        checks.due("part(1, 2)", run.x.part(1, 2), 3);
        checks.due("part(1, 3)", run.x.part(1, 3), 0);
        run.take("1.2.3-a");
        run.take("1.2.3-a.b.c.d");
        run.take("1.2.3-a");
        checks.due("compare(2, 4)", run.x.compare(2, 4), 0);
        checks.due("compare(2, 3)", run.x.compare(2, 3), -1);
    }
}
