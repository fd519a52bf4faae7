/** Promise 4: take, and what a VERSION is. */
public final class Promise4TakeTest {
    private static final String[] VERSIONS = {
        "0.0.0", "1.2.3", "10.20.30", "999999999.999999999.999999999", "1.0.0-0", "1.0.0-a", "1.0.0-Z",
        "1.0.0--", "1.0.0---", "1.0.0-a.b.c.d", "1.0.0-0.0.0.0", "1.0.0-01a", "1.0.0-0-", "1.0.0--1",
        "1.0.0-12345678", "1.0.0-abcdefgh", "1.0.0-needs", "1.0.0-" + Run.LONGEST_PRE,
        " 1.0.0", "1.0.0 ", "   1.0.0-x   ", "1.0.0-a-b", "1.0.0-azAZ09-",
    };

    private static final String[] NO_VERSIONS = {
        "", " ", "    ", "1", "1.", "1.2", "1.2.", "1.2.3.", "1.2.3.4", ".1.2.3", "1..2", "1.2..3", "..",
        "01.0.0", "1.00.0", "1.0.00", "1.0.01", "1.0.0123", "1234567890.0.0", "0.1234567890.0", "0.0.1234567890",
        "4294967297.0.0", "1000000000.0.0", "1.0.0-", "1.0.0-.", "1.0.0-a.", "1.0.0-.a", "1.0.0-a..b",
        "1.0.0-a.b.c.d.e", "1.0.0-a.b.c.d.", "1.0.0-abcdefghi", "1.0.0-123456789", "1.0.0-a.abcdefghi",
        "1.0.0-00", "1.0.0-01", "1.0.0-a.01", "1.0.0-a_b", "1.0.0-a+b", "1.0.0+b", "1.0.0a", "1.0.0_a", "1.0.0-a\t",
        "1.0.0-@", "1.0.0-[", "1.0.0-`", "1.0.0-{", "1.0.0-/", "1.0.0-:", "1.0.0-,", "1.0.0-a,b",
        "/.0.0", ":.0.0", "1.0.:", "1.0./", "a.0.0", "-1.0.0", "+1.0.0", "v1.0.0", "=1.0.0", "^1.0.0", "*", "||",
        "1.0.0 2.0.0", "1.0.0 x", "x 1.0.0", "1.0.0 needs", "1. 0.0", "1.0.0 -a", "1.0.0- a", "1.0.0\t", "\t1.0.0",
        "1.0.0\n", "1.0.0\0", "\0", "1,0,0", "1.0-a.0", "1-a.0.0",
    };

    public static void main(String[] args) {
        Checks checks = new Checks();
        versionsAreTaken(checks);
        othersAreFaults(checks);
        numbersCountUp(checks);
        twelveAreFull(checks);
        tapeIsEmptiedWhateverIsAnswered(checks);
        faultLeavesTheList(checks);
        wordsStopWhereTheTapeIsCut(checks);
        wordsStopAtTheLastByte(checks);
        checks.finish();
    }

    private static void versionsAreTaken(Checks checks) {
        for (String text : VERSIONS) {
            checks.due("take '" + text + "'", new Run().take(text), 0);
        }
        checks.due("take of 400 bytes, before", new Run().take(" ".repeat(395) + "1.0.0"), 0);
        checks.due("take of 400 bytes, behind", new Run().take("1.0.0" + " ".repeat(395)), 0);
        checks.due("take of 200 words", new Run().take("1 ".repeat(200)), VersionRanges.FAULT);
        checks.due("take of a word of 400", new Run().take("1".repeat(400)), VersionRanges.FAULT);
    }

    private static void othersAreFaults(Checks checks) {
        for (String text : NO_VERSIONS) {
            Run run = new Run();
            checks.due("take '" + text + "'", run.take(text), VersionRanges.FAULT);
            checks.due("clear() after '" + text + "'", run.x.clear(), 0);
        }
    }

    private static void numbersCountUp(Checks checks) {
        Run run = new Run();
        for (int k = 0; k < 12; k++) {
            checks.due("take number " + k, run.take("1.0." + k), k);
        }
        Run same = new Run();
        checks.due("take 1.0.0", same.take("1.0.0"), 0);
        checks.due("take 1.0.0 again", same.take("1.0.0"), 1);
    }

    private static void twelveAreFull(Checks checks) {
        Run run = Run.full();
        checks.due("take a thirteenth", run.take("12.0.0"), VersionRanges.FULL);
        checks.due("take no version with 12", run.take("12.0"), VersionRanges.FAULT);
        checks.due("take two words with 12", run.take("1.0.0 1.0.0"), VersionRanges.FAULT);
        checks.due("take nothing with 12", run.x.take(), VersionRanges.FAULT);
        for (int k = 0; k < 12; k++) {
            checks.due("part(" + k + ", 0) when full", run.x.part(k, 0), k);
        }
        checks.due("part(12, 0) when full", run.x.part(12, 0), VersionRanges.NONE);
        checks.due("clear() when full", run.x.clear(), 12);
    }

    private static void tapeIsEmptiedWhateverIsAnswered(Checks checks) {
        Run taken = new Run();
        taken.take("1.0.0");
        checks.due("end(1) after a number", taken.x.end(1), VersionRanges.REFUSED);
        taken.take("1.0");
        checks.due("end(1) after FAULT", taken.x.end(1), VersionRanges.REFUSED);
        taken.take("1.0.0 1.0.0");
        checks.due("end(1) after FAULT for words", taken.x.end(1), VersionRanges.REFUSED);
        Run full = Run.full();
        full.take("1.0.0");
        checks.due("end(1) after FULL", full.x.end(1), VersionRanges.REFUSED);
    }

    private static void faultLeavesTheList(Checks checks) {
        Run run = Run.with("1.2.3-abc.4");
        run.take("9.9.9-z.");
        run.take("9.9");
        checks.due("part(0, 0)", run.x.part(0, 0), 1);
        checks.due("part(0, 3)", run.x.part(0, 3), 5);
        checks.due("match(=1.2.3-abc.4)", run.match("=1.2.3-abc.4"), 1);
        checks.due("take after FAULT", run.take("9.9.9"), 1);
        checks.due("part(1, 3)", run.x.part(1, 3), 0);
    }

    /** What was cut off is no part of the word, whatever byte it was. */
    private static void wordsStopWhereTheTapeIsCut(Checks checks) {
        String text = "12.34.56-ab.78";
        for (int n = 0; n <= text.length(); n++) {
            boolean isVersion = n == 7 || n == 8 || n == 10 || n == 11 || n >= 13;
            Run run = new Run();
            run.put(text);
            run.x.end(n);
            checks.due("take of the first " + n, run.x.take(), isVersion ? 0 : VersionRanges.FAULT);
            checks.due("its bytes of PRE", run.x.part(0, 3), isVersion ? Math.max(0, n - 9) : VersionRanges.NONE);
        }
    }

    private static void wordsStopAtTheLastByte(Checks checks) {
        String[] broken = {"1", "1.", "1.0", "1.0.", "1.0.0-", "1.0.0-a.", "<", "-"};
        for (String text : broken) {
            String blanks = " ".repeat(400 - text.length());
            checks.due("take '" + text + "' at byte 400", new Run().take(blanks + text), VersionRanges.FAULT);
        }
        String blanks = " ".repeat(393);
        checks.due("take 1.0.0-a at byte 400", new Run().take(blanks + "1.0.0-a"), 0);
        checks.due("take 1.0.0-1 at byte 400", new Run().take(blanks + "1.0.0-1"), 0);
    }
}
