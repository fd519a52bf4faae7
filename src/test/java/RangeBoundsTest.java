/** The boundaries of RANGE, CHOICE and IN. */
public final class RangeBoundsTest {
    private static final String FOUR_TESTS = "* * * *";

    public static void main(String[] args) {
        Cases cases = new Cases();
        cases.add("RANGE: 1 choice at least", RangeBoundsTest::oneChoiceAtLeast);
        cases.add("RANGE: up to 4 choices", RangeBoundsTest::fourChoices);
        cases.add("RANGE: not 5 choices", RangeBoundsTest::notFiveChoices);
        cases.add("RANGE: || between, not before", RangeBoundsTest::notBefore);
        cases.add("RANGE: || between, not behind", RangeBoundsTest::notBehind);
        cases.add("RANGE: the word ||, of two bytes", RangeBoundsTest::twoBytes);
        cases.add("RANGE: || a word by itself", RangeBoundsTest::aWordByItself);
        cases.add("RANGE: no other word between", RangeBoundsTest::noOtherWord);
        cases.add("CHOICE: 1 test at least", RangeBoundsTest::oneTestAtLeast);
        cases.add("CHOICE: up to 4 tests", RangeBoundsTest::fourTests);
        cases.add("CHOICE: not 5 tests, in each place", RangeBoundsTest::notFiveTests);
        cases.add("RANGE: the words needs, breaks and owns are no part of it", RangeBoundsTest::endWords);
        cases.add("RANGE: needs, breaks and owns in PRE are marks", RangeBoundsTest::endWordsAsMarks);
        cases.add("IN: all tests of a choice, each of the four", RangeBoundsTest::allTests);
        cases.add("IN: one choice is enough, each of the four", RangeBoundsTest::oneChoice);
        cases.add("IN: the tests of one choice, not of two", RangeBoundsTest::notOfTwo);
        cases.add("IN: the longest range", RangeBoundsTest::longestRange);
        cases.finish();
    }

    private static void oneChoiceAtLeast(Checks checks) {
        Ask.isNoRange(checks, "", " ", " ".repeat(400));
        Ask.isRange(checks, "*");
    }

    private static void fourChoices(Checks checks) {
        Ask.isRange(checks, "* || *", "* || * || *", "* || * || * || *", "1.0.0 || <1.0.0 || ^1.0.0 || ~1.0.0-a");
    }

    private static void notFiveChoices(Checks checks) {
        Ask.isNoRange(checks, "* || * || * || * || *",
                "1.0.0 || 1.0.0 || 1.0.0 || 1.0.0 || 1.0.0", "*" + " || *".repeat(79));
    }

    private static void notBefore(Checks checks) {
        Ask.isNoRange(checks, "|| *", "|| * || *", "||  || *", " || * || * || *");
    }

    private static void notBehind(Checks checks) {
        Ask.isNoRange(checks, "* ||", "* || * ||", "* || * || * ||", "* || * || * || * ||", "* || ");
    }

    private static void twoBytes(Checks checks) {
        Ask.isNoRange(checks, "|", "* | *", "* ||| *", "* |||| *", "* | | *", "* |x *", "* x| *");
    }

    private static void aWordByItself(Checks checks) {
        Ask.isNoRange(checks, "*||*", "* ||*", "*|| *", "1.0.0||1.0.0", "1.0.0|| 1.0.0",
                "1.0.0 ||1.0.0", "1.0.0-a|| *");
    }

    private static void noOtherWord(Checks checks) {
        Ask.isNoRange(checks, "* or *", "* && *", "* , *", "* - *", "1.0.0 - 2.0.0", "* // *");
    }

    private static void oneTestAtLeast(Checks checks) {
        Ask.isNoRange(checks, "||", "|| ||", "* || || *", "* || || * || *", "* || * || || *", "|| || ||");
    }

    private static void fourTests(Checks checks) {
        Ask.isRange(checks, "* *", "* * *", FOUR_TESTS, ">=1.0.0 <2.0.0 >1.0.0-a <=1.5.0");
        Ask.isRange(checks, FOUR_TESTS + " || " + FOUR_TESTS + " || " + FOUR_TESTS + " || " + FOUR_TESTS);
    }

    private static void notFiveTests(Checks checks) {
        Ask.isNoRange(checks, FOUR_TESTS + " *", FOUR_TESTS + " * || *", "* || " + FOUR_TESTS + " *");
        Ask.isNoRange(checks, "* || * || " + FOUR_TESTS + " *", "* || * || * || " + FOUR_TESTS + " *");
        Ask.isNoRange(checks, "1.0.0 1.0.0 1.0.0 1.0.0 1.0.0", FOUR_TESTS + " " + FOUR_TESTS);
    }

    private static void endWords(Checks checks) {
        for (String word : new String[] {"needs", "breaks", "owns"}) {
            Ask.isNoRange(checks, word, "* " + word, word + " *", "* " + word + " *",
                    "* " + word + " x", "* || " + word);
            Ask.isNoRange(checks, "* || * " + word, "* " + word + " 1.0.0", FOUR_TESTS + " " + word, ">=1.0.0 " + word);
            Ask.isNoRange(checks, word + " || *", "* " + word + " || *");
            Ask.isNotTaken(checks, word, "1.0.0 " + word, word + " 1.0.0");
        }
    }

    private static void endWordsAsMarks(Checks checks) {
        Ask.isVersion(checks, "1.0.0-needs", "1.0.0-breaks", "1.0.0-owns", "1.0.0-needs.breaks.owns");
        Ask.isRange(checks, ">=1.0.0-needs <2.0.0-owns || ^3.0.0-breaks");
    }

    private static void allTests(Checks checks) {
        Ask.has(checks, ">=1.0.0 <=1.0.0 =1.0.0 1.0.0", "1.0.0");
        String fails = "<1.0.0";
        Ask.hasNot(checks, fails + " * * *", "1.0.0");
        Ask.hasNot(checks, "* " + fails + " * *", "1.0.0");
        Ask.hasNot(checks, "* * " + fails + " *", "1.0.0");
        Ask.hasNot(checks, "* * * " + fails, "1.0.0");
    }

    private static void oneChoice(Checks checks) {
        Ask.has(checks, "1.0.0 || 2.0.0 || 3.0.0 || 4.0.0", "1.0.0", "2.0.0", "3.0.0", "4.0.0");
        Ask.hasNot(checks, "1.0.0 || 2.0.0 || 3.0.0 || 4.0.0", "1.0.0-a", "5.0.0", "1.0.1");
    }

    private static void notOfTwo(Checks checks) {
        Ask.hasNot(checks, ">1.0.0 <1.0.0 || <1.0.0 >1.0.0", "0.9.0", "1.0.0", "1.1.0");
        Ask.hasNot(checks, "1.0.0 2.0.0 || 2.0.0 1.0.0", "1.0.0", "2.0.0");
        Ask.hasNot(checks, "* 2.0.0 || 2.0.0 *", "1.0.0");
    }

    /** Four choices of four tests, which are all that the TAPE can have. */
    private static void longestRange(Checks checks) {
        String test = ">=1.2.3-abcdefgh.ijklmn";
        String choice = test + " " + test + "o " + test + " " + test + "o";
        String range = choice + " || " + choice + " || " + choice + " || " + choice;
        checks.due("bytes of the range", range.length(), 400);
        Ask.has(checks, range, "1.2.3-abcdefgh.ijklmno", "1.2.3");
        Ask.hasNot(checks, range, "1.2.3-abcdefgh.ijklmn");
        Ask.isNoRange(checks, range.substring(0, 399) + "_");
    }
}
