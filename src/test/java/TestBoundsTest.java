/** The boundaries of TESTS: *, the signs, and what they have. */
public final class TestBoundsTest {
    private static final String[] SIGNS = {"=", "<", "<=", ">", ">=", "^", "~"};
    private static final String JUST_BELOW = "1.2.3-azzzzzzz.zzzzzzzz.zzzzzzzz.zzzzzzzz";
    private static final String BOUND = "1.2.3-b";
    private static final String JUST_ABOVE = "1.2.3-b.0";

    public static void main(String[] args) {
        Cases cases = new Cases();
        cases.add("TESTS: * has all", TestBoundsTest::starHasAll);
        cases.add("TESTS: * alone is its word", TestBoundsTest::starAlone);
        cases.add("TESTS: a sign needs its version", TestBoundsTest::signNeedsVersion);
        cases.add("TESTS: the sign in the same word", TestBoundsTest::sameWord);
        cases.add("TESTS: one sign", TestBoundsTest::oneSign);
        cases.add("TESTS: no other sign", TestBoundsTest::noOtherSign);
        cases.add("TESTS: the sign before, not behind", TestBoundsTest::signBefore);
        cases.add("TESTS: a whole version, no part of one", TestBoundsTest::wholeVersion);
        cases.add("TESTS: = the same", checks -> hasOf(checks, "=", 0, 1, 0));
        cases.add("TESTS: nothing, the same", checks -> hasOf(checks, "", 0, 1, 0));
        cases.add("TESTS: < below", checks -> hasOf(checks, "<", 1, 0, 0));
        cases.add("TESTS: <= at or below", checks -> hasOf(checks, "<=", 1, 1, 0));
        cases.add("TESTS: > above", checks -> hasOf(checks, ">", 0, 0, 1));
        cases.add("TESTS: >= at or above", checks -> hasOf(checks, ">=", 0, 1, 1));
        cases.add("TESTS: ^ at or above", checks -> hasOf(checks, "^", 0, 1, 1));
        cases.add("TESTS: ~ at or above", checks -> hasOf(checks, "~", 0, 1, 1));
        cases.add("TESTS: below the lowest version none, above the highest none", TestBoundsTest::lowestAndHighest);
        cases.finish();
    }

    private static void hasOf(Checks checks, String sign, int below, int same, int above) {
        Run run = Run.with(JUST_BELOW, BOUND, JUST_ABOVE);
        checks.due("match " + sign + BOUND, run.match(sign + BOUND), below + 2 * same + 4 * above);
        Run numbers = Run.with("1.2.2", "1.2.3", "1.2.4");
        checks.due("match " + sign + "1.2.3", numbers.match(sign + "1.2.3"), below + 2 * same + 4 * above);
    }

    private static void starHasAll(Checks checks) {
        Ask.has(checks, "*", Ask.LOWEST, "0.0.0", "1.0.0-a", Ask.HIGHEST);
        checks.due("match * of none", new Run().match("*"), 0);
        checks.due("match * of twelve", Run.full().match("*"), 4095);
    }

    private static void starAlone(Checks checks) {
        Ask.isNoRange(checks, "**", "*1.0.0", "1.0.0*", "*.*.*", "1.*.0", "1.0.*", "*-a", "*x", "x*", "*|", "*\0");
        for (String sign : SIGNS) {
            Ask.isNoRange(checks, sign + "*", "*" + sign);
        }
    }

    private static void signNeedsVersion(Checks checks) {
        for (String sign : SIGNS) {
            Ask.isNoRange(checks, sign, "* " + sign, sign + " *", "* || " + sign,
                    " ".repeat(400 - sign.length()) + sign);
        }
    }

    private static void sameWord(Checks checks) {
        for (String sign : SIGNS) {
            Ask.isNoRange(checks, sign + " 1.0.0", sign + "  1.0.0");
            Ask.isRange(checks, sign + "1.0.0");
        }
        Ask.isNoRange(checks, "< =1.0.0", "> =1.0.0");
    }

    private static void oneSign(Checks checks) {
        for (String first : SIGNS) {
            for (String second : SIGNS) {
                String both = first + second;
                if (!both.equals("<=") && !both.equals(">=")) {
                    Ask.isNoRange(checks, both + "1.0.0");
                }
            }
        }
    }

    private static void noOtherSign(Checks checks) {
        for (int other = 0; other < 256; other++) {
            boolean digit = other >= '0' && other <= '9';
            if (!digit && " =<>^~".indexOf(other) < 0) {
                Ask.isNoRange(checks, (char) other + "1.0.0", (char) other + "=1.0.0", "<" + (char) other + "1.0.0");
            }
        }
    }

    private static void signBefore(Checks checks) {
        for (String sign : SIGNS) {
            Ask.isNoRange(checks, "1.0.0" + sign, "1.0.0 " + sign, sign + "1.0.0" + sign, "1.0.0-a" + sign);
            Ask.isNoRange(checks, "1.0.0" + sign + "1.0.0");
        }
    }

    private static void wholeVersion(Checks checks) {
        for (String sign : SIGNS) {
            Ask.isNoRange(checks, sign + "1", sign + "1.0", sign + "1.0.", sign + "1.x.0",
                    sign + "1.0.0-", sign + "01.0.0");
            Ask.isNoRange(checks, sign + "1.0.0.0", sign + "1.0.0+a", sign + "-1.0.0", sign + "1000000000.0.0");
            Ask.isNoRange(checks, sign + "1.0.0-01", sign + "1.0.0-abcdefghi", sign + "1.0.0-a.b.c.d.e");
        }
    }

    private static void lowestAndHighest(Checks checks) {
        Run run = Run.with(Ask.LOWEST, "1.0.0", Ask.HIGHEST);
        checks.due("< the lowest", run.match("<" + Ask.LOWEST), 0);
        checks.due("<= the lowest", run.match("<=" + Ask.LOWEST), 1);
        checks.due(">= the lowest", run.match(">=" + Ask.LOWEST), 7);
        checks.due("> the lowest", run.match(">" + Ask.LOWEST), 6);
        checks.due("> the highest", run.match(">" + Ask.HIGHEST), 0);
        checks.due(">= the highest", run.match(">=" + Ask.HIGHEST), 4);
        checks.due("<= the highest", run.match("<=" + Ask.HIGHEST), 7);
        checks.due("< the highest", run.match("<" + Ask.HIGHEST), 3);
    }
}
