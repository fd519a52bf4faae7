/** The boundaries of VERSION. */
public final class VersionBoundsTest {
    public static void main(String[] args) {
        Cases cases = new Cases();
        cases.add("VERSION: the shortest and the longest word", VersionBoundsTest::shortestAndLongest);
        cases.add("VERSION: not less than three NUMs", VersionBoundsTest::notLess);
        cases.add("VERSION: not more than three NUMs", VersionBoundsTest::notMore);
        cases.add("VERSION: one point between", VersionBoundsTest::onePointBetween);
        cases.add("VERSION: no point before or behind", VersionBoundsTest::noPointAround);
        cases.add("VERSION: a point and nothing else between", VersionBoundsTest::nothingElseBetween);
        cases.add("VERSION: a word, with no blank in it", VersionBoundsTest::noBlankInside);
        cases.add("VERSION: PRE may be left out", VersionBoundsTest::withoutPre);
        cases.add("VERSION: - alone is not PRE", VersionBoundsTest::hyphenAlone);
        cases.add("VERSION: nothing but - before PRE", VersionBoundsTest::nothingElseBeforePre);
        cases.add("VERSION: nothing behind it", VersionBoundsTest::nothingBehind);
        cases.add("VERSION: nothing before it", VersionBoundsTest::nothingBefore);
        cases.add("VERSION: PRE behind patch alone", VersionBoundsTest::preBehindPatchAlone);
        cases.add("VERSION: it stops where the TAPE is cut", VersionBoundsTest::stopsWhereTheTapeIsCut);
        cases.finish();
    }

    private static void shortestAndLongest(Checks checks) {
        Ask.isVersion(checks, "0.0.0", Ask.HIGHEST + "-" + Run.LONGEST_PRE);
    }

    private static void notLess(Checks checks) {
        Ask.isNoVersion(checks, "", "1", "1.2", "1-a", "1.2-a", "1.2.-a", "1.2.", "1.", ".", "..");
    }

    private static void notMore(Checks checks) {
        Ask.isNoVersion(checks, "1.2.3.4", "1.2.3.4-a", "1.2.3.4.5", "0.0.0.0");
    }

    private static void onePointBetween(Checks checks) {
        Ask.isNoVersion(checks, "1..2.3", "1.2..3", "123", "12.3", "1...3");
    }

    private static void noPointAround(Checks checks) {
        Ask.isNoVersion(checks, ".1.2.3", "1.2.3.", "1.2.3.-a", "1.2.3-a.");
    }

    private static void nothingElseBetween(Checks checks) {
        Ask.isNoVersion(checks, "1,2,3", "1-2-3", "1.2-3", "1/2/3", "1:2:3", "1_2_3", "1.2,3", "1,2.3");
    }

    private static void noBlankInside(Checks checks) {
        String version = "12.34.56-ab.cd";
        for (int at = 1; at < version.length(); at++) {
            Ask.isNotTaken(checks, version.substring(0, at) + " " + version.substring(at));
        }
        Ask.isNoRange(checks, "1. 2.3", "1 .2.3", "1.2.3- a", "1.2.3 -a", "1.2.3-a .b", "1.2.3-a. b");
    }

    private static void withoutPre(Checks checks) {
        Ask.isVersion(checks, "1.2.3", "1.2.3-a");
        checks.due("bytes of no PRE", Run.with("1.2.3").x.part(0, 3), 0);
    }

    private static void hyphenAlone(Checks checks) {
        Ask.isNoVersion(checks, "1.2.3-", "0.0.0-", "999999999.999999999.999999999-");
        Ask.isVersion(checks, "1.2.3--");
        checks.due("bytes of PRE -", Run.with("1.2.3--").x.part(0, 3), 1);
    }

    private static void nothingElseBeforePre(Checks checks) {
        for (int other = 0; other < 256; other++) {
            boolean digit = other >= '0' && other <= '9';
            if (!digit && other != '-' && other != ' ') {
                Ask.isNotTaken(checks, "1.2.3" + (char) other, "1.2.3" + (char) other + "a");
            }
        }
    }

    private static void nothingBehind(Checks checks) {
        Ask.isNoVersion(checks, "1.2.3+b", "1.2.3-a+b", "1.2.3*", "1.2.3||", "1.2.3<", "1.2.3=",
                "1.2.3-a*", "1.2.3-a|");
        Ask.isNoVersion(checks, "1.2.3\0", "1.2.3\t", "1.2.3-a\0", "1.2.3\u00a0", "1.2.3-a\u00ff");
    }

    private static void nothingBefore(Checks checks) {
        Ask.isNoVersion(checks, "v1.2.3", "V1.2.3", "-1.2.3", "+1.2.3", "~1.2.3", "^1.2.3", "*1.2.3", "\0" + "1.2.3");
        Ask.isNotTaken(checks, "=1.2.3", "<1.2.3", "<=1.2.3", ">1.2.3", ">=1.2.3");
    }

    private static void preBehindPatchAlone(Checks checks) {
        Ask.isNoVersion(checks, "1-a.2.3", "1.2-a.3", "1-0.2.3", "-a.1.2.3", "-a");
    }

    /** Each beginning of one version: what was cut off counts no more. */
    private static void stopsWhereTheTapeIsCut(Checks checks) {
        String text = "12.34.56-ab.78";
        for (int n = 0; n <= text.length(); n++) {
            boolean version = n == 7 || n == 8 || n == 10 || n == 11 || n >= 13;
            Run run = new Run();
            run.put(text);
            run.x.end(n);
            checks.due("take of the first " + n, run.x.take(), version ? 0 : VersionRanges.FAULT);
        }
    }
}
