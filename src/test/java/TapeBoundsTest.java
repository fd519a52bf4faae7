/** The boundaries of THE TAPE. */
public final class TapeBoundsTest {
    public static void main(String[] args) {
        Cases cases = new Cases();
        cases.add("TAPE: none at first", checks -> Ask.tapeIsEmpty(checks, new VersionRanges()));
        cases.add("TAPE: at most 400, all of them", TapeBoundsTest::has400);
        cases.add("TAPE: at most 400, no more", TapeBoundsTest::hasNoMoreThan400);
        cases.add("TAPE: its last byte is read", TapeBoundsTest::lastByteIsRead);
        cases.add("TAPE: a number of take empties it", TapeBoundsTest::numberEmpties);
        cases.add("TAPE: FAULT of take empties it", TapeBoundsTest::faultOfTakeEmpties);
        cases.add("TAPE: FAULT of take for more words empties it", TapeBoundsTest::moreWordsEmpty);
        cases.add("TAPE: FULL of take empties it", TapeBoundsTest::fullOfTakeEmpties);
        cases.add("TAPE: bits of match empty it", TapeBoundsTest::bitsEmpty);
        cases.add("TAPE: no bits of match empty it", TapeBoundsTest::noBitsEmpty);
        cases.add("TAPE: FAULT of match empties it", TapeBoundsTest::faultOfMatchEmpties);
        cases.add("TAPE: calls that do not read it leave it", TapeBoundsTest::othersLeaveIt);
        cases.add("WORDS: no blank is needed before and behind", TapeBoundsTest::noBlanks);
        cases.add("WORDS: one blank or more before", TapeBoundsTest::blanksBefore);
        cases.add("WORDS: one blank or more behind", TapeBoundsTest::blanksBehind);
        cases.add("WORDS: one blank or more between", TapeBoundsTest::blanksBetween);
        cases.add("WORDS: blanks alone are no word", TapeBoundsTest::blanksAlone);
        cases.add("WORDS: no byte but 32 is a blank", TapeBoundsTest::noOtherBlank);
        cases.add("WORDS: one byte a word, up to 200", TapeBoundsTest::shortestWords);
        cases.add("WORDS: one word of 400 bytes", TapeBoundsTest::longestWord);
        cases.finish();
    }

    private static void has400(Checks checks) {
        Run run = new Run();
        checks.due("put 400 bytes", run.put(" ".repeat(395) + "1.2.3"), 400);
        checks.due("end(400)", run.x.end(400), 400);
        checks.due("take()", run.x.take(), 0);
    }

    private static void hasNoMoreThan400(Checks checks) {
        Run run = new Run();
        run.put(" ".repeat(395) + "1.2.3");
        checks.due("feed to 400 bytes", run.x.feed(0x34343434, 0, 0, 0, 0), VersionRanges.FULL);
        checks.due("end(401)", run.x.end(401), VersionRanges.REFUSED);
        checks.due("take()", run.x.take(), 0);
        checks.due("part(0, 2)", run.x.part(0, 2), 3);
    }

    private static void lastByteIsRead(Checks checks) {
        Run run = new Run();
        run.take(" ".repeat(394) + "1.2.34");
        checks.due("part(0, 2)", run.x.part(0, 2), 34);
        Ask.isNoRange(checks, "*" + " ".repeat(398) + "x");
        Ask.isRange(checks, "*" + " ".repeat(398) + "*");
    }

    private static void numberEmpties(Checks checks) {
        Run run = new Run();
        checks.due("take 1.0.0", run.take("1.0.0"), 0);
        Ask.tapeIsEmpty(checks, run.x);
    }

    private static void faultOfTakeEmpties(Checks checks) {
        Run run = new Run();
        checks.due("take 1.0", run.take("1.0"), VersionRanges.FAULT);
        Ask.tapeIsEmpty(checks, run.x);
    }

    private static void moreWordsEmpty(Checks checks) {
        Run run = new Run();
        checks.due("take of two words", run.take("1.0.0 2.0.0"), VersionRanges.FAULT);
        Ask.tapeIsEmpty(checks, run.x);
    }

    private static void fullOfTakeEmpties(Checks checks) {
        Run run = Run.full();
        checks.due("take a thirteenth", run.take("1.0.0"), VersionRanges.FULL);
        Ask.tapeIsEmpty(checks, run.x);
    }

    private static void bitsEmpty(Checks checks) {
        Run run = Run.with("1.0.0");
        checks.due("match *", run.match("*"), 1);
        Ask.tapeIsEmpty(checks, run.x);
    }

    private static void noBitsEmpty(Checks checks) {
        Run run = Run.with("1.0.0");
        checks.due("match 2.0.0", run.match("2.0.0"), 0);
        Ask.tapeIsEmpty(checks, run.x);
        Run none = new Run();
        checks.due("match * of no version", none.match("*"), 0);
        Ask.tapeIsEmpty(checks, none.x);
    }

    private static void faultOfMatchEmpties(Checks checks) {
        for (String text : new String[] {"x", "* ||", "* * * * *", "* || * || * || * || *", "* needs"}) {
            Run run = Run.with("1.0.0");
            checks.due("match " + text, run.match(text), VersionRanges.FAULT);
            Ask.tapeIsEmpty(checks, run.x);
        }
    }

    private static void othersLeaveIt(Checks checks) {
        Run run = Run.with("1.0.0", "2.0.0");
        run.put("3.4.5-a.6");
        run.x.compare(0, 1);
        run.x.compare(0, 2);
        run.x.part(0, 0);
        run.x.part(2, 0);
        run.x.part(0, 4);
        run.x.rank(1);
        run.x.rank(2);
        run.x.clear();
        Ask.tapeIsStill(checks, run, "3.4.5-a.6", 0);
    }

    private static void noBlanks(Checks checks) {
        Ask.isVersion(checks, "1.0.0");
        Ask.isRange(checks, "*", "* || *");
    }

    private static void blanksBefore(Checks checks) {
        Ask.isVersion(checks, " 1.0.0", "  1.0.0", " ".repeat(395) + "1.0.0");
        Ask.isRange(checks, " *", "  * || *", " ".repeat(399) + "*");
    }

    private static void blanksBehind(Checks checks) {
        Ask.isVersion(checks, "1.0.0 ", "1.0.0  ", "1.0.0" + " ".repeat(395));
        Ask.isRange(checks, "* ", "* || *  ", "*" + " ".repeat(399));
    }

    private static void blanksBetween(Checks checks) {
        Ask.isRange(checks, "* *", "*  *", "*" + " ".repeat(398) + "*", "*  ||   *", "1.0.0 2.0.0");
        Ask.isNoRange(checks, "**", "1.0.02.0.0", "*||*");
    }

    private static void blanksAlone(Checks checks) {
        Ask.isNotTaken(checks, " ", "  ", " ".repeat(400));
        Ask.isNoRange(checks, " ", "  ", " ".repeat(400));
    }

    private static void noOtherBlank(Checks checks) {
        for (int other = 0; other < 256; other++) {
            if (other != 32) {
                // With a digit in the place of the blank, these have a number that is too long or begins with 0.
                Ask.isNotTaken(checks, (char) other + "123456789.0.0", "1.0.0" + (char) other);
                Ask.isNoRange(checks, "*" + (char) other + "*", "*" + (char) other);
            }
        }
    }

    private static void shortestWords(Checks checks) {
        Ask.isNotTaken(checks, "1 ".repeat(200), " 1".repeat(200));
        Ask.isNoRange(checks, "* ".repeat(200), " *".repeat(200));
    }

    private static void longestWord(Checks checks) {
        Ask.isNotTaken(checks, "1".repeat(400), ".".repeat(400), "1.0.0-" + "a".repeat(394), "1." + "0".repeat(398));
        Ask.isNoRange(checks, "*".repeat(400), "|".repeat(400), "<".repeat(400), "=" + "1".repeat(399));
    }
}
