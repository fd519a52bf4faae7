/** Promise 8: match, and what a RANGE is. */
public final class Promise8MatchTest {
    private static final String[] NO_RANGES = {
        "", " ", "||", "|| *", "* ||", "* || || *", "* || *  ||", "|", "* | *", "*||*", "*|| *", "* ||*", "* ||| *",
        "|1.0.0", "||1.0.0", "1.0.0||", "* * * * *", "* || * * * * *", "* || * || * || * || *", "* || * || * || * ||",
        "**", "*1.0.0", "1.0.0*", "=*", "<*", "^*", "~*", "<", "<=", ">", ">=", "=", "^", "~",
        "==1.0.0", "=<1.0.0", "=>1.0.0", "<<1.0.0", "<>1.0.0", ">>1.0.0", "<==1.0.0", ">==1.0.0", "^=1.0.0", "~=1.0.0",
        "=^1.0.0", "^^1.0.0", "~~1.0.0", "^~1.0.0", "~>1.0.0", "!1.0.0", "!=1.0.0", "v1.0.0",
        "= 1.0.0", "< 1.0.0", "<= 1.0.0", "< =1.0.0", "^ 1.0.0", "1.0.0 <", "1.0.0<", "1.0.0 -", "1.0.0-", "1", "1.0",
        "1.x.0", "1.*.0", "^1", "~1.2", ">=1.0.0 <2.0", "01.0.0", ">1.00.0", "<1.0.0-01", "^1.0.0-a.b.c.d.e",
        "~1.0.0-abcdefghi", ">=1234567890.0.0", ">=1.0.0<2.0.0", "1.0.0,2.0.0", "needs", "breaks", "owns", "* needs",
        "* breaks", "* owns", "needs *", "* needs x", "* needs *", "* || needs", "* owns || *", "or", "* or *",
        "* && *", "*\t*", "*\0", "\0*", "*\n", "* x", "x *", "x || *", "* || x",
    };

    private static final String[] ALL_RANGES = {
        "*", " * ", "* *", "* * * *", "* || *", "* || * || * || *", "* * * * || * * * * || * * * * || * * * *",
        "1.0.0 || *", "* || 1.0.0", ">=0.0.0-0", "<0.0.0 || >=0.0.0", "   *   ||   *   ",
    };

    private static final String[] ROW = {
        "0.0.0", "0.0.3", "0.0.4", "0.2.0", "0.3.0-a", "0.3.0", "1.0.0-a", "1.0.0", "1.2.3", "1.3.0", "2.0.0-a", "2.0.0",
    };

    public static void main(String[] args) {
        Checks checks = new Checks();
        othersAreFaults(checks);
        starHasAll(checks);
        signs(checks);
        carets(checks);
        tildes(checks);
        choicesAndTests(checks);
        highestNumbers(checks);
        precedenceDecides(checks);
        tapeIsEmptiedAndTheListStays(checks);
        wordsStopAtTheLastByte(checks);
        checks.finish();
    }

    private static void othersAreFaults(Checks checks) {
        for (String text : NO_RANGES) {
            checks.due("match '" + text + "'", Run.with("1.0.0", "2.0.0").match(text), VersionRanges.FAULT);
            checks.due("match '" + text + "' of none", new Run().match(text), VersionRanges.FAULT);
        }
        checks.due("match of 200 words", new Run().match("* ".repeat(200)), VersionRanges.FAULT);
        checks.due("match of a word of 400", new Run().match("1".repeat(400)), VersionRanges.FAULT);
    }

    private static void starHasAll(Checks checks) {
        for (String text : ALL_RANGES) {
            checks.due("match '" + text + "'", Run.with(ROW).match(text), 4095);
            checks.due("match '" + text + "' of none", new Run().match(text), 0);
        }
        checks.due("match * of one", Run.with("1.0.0").match("*"), 1);
        checks.due("match of 400 bytes", Run.with(ROW).match(" ".repeat(399) + "*"), 4095);
    }

    /** The range has just these of ROW. */
    private static void has(Checks checks, String range, String... versions) {
        int bits = 0;
        for (String version : versions) {
            bits |= 1 << indexInRow(version);
        }
        checks.due("match '" + range + "'", Run.with(ROW).match(range), bits);
    }

    private static int indexInRow(String version) {
        for (int k = 0; k < ROW.length; k++) {
            if (ROW[k].equals(version)) {
                return k;
            }
        }
        throw new IllegalStateException("not in the row: " + version);
    }

    private static void signs(Checks checks) {
        has(checks, "1.0.0", "1.0.0");
        has(checks, "=1.0.0", "1.0.0");
        has(checks, "=1.0.0-a", "1.0.0-a");
        has(checks, "1.0.0-b");
        has(checks, "<0.0.3", "0.0.0");
        has(checks, "<=0.0.3", "0.0.0", "0.0.3");
        has(checks, ">1.3.0", "2.0.0-a", "2.0.0");
        has(checks, ">=1.3.0", "1.3.0", "2.0.0-a", "2.0.0");
        has(checks, ">2.0.0-a", "2.0.0");
        has(checks, ">=2.0.0-a", "2.0.0-a", "2.0.0");
        has(checks, ">2.0.0");
        has(checks, "<0.0.0");
        has(checks, "<=0.0.0", "0.0.0");
    }

    private static void carets(Checks checks) {
        has(checks, "^1.0.0", "1.0.0", "1.2.3", "1.3.0", "2.0.0-a");
        has(checks, "^1.0.0-a", "1.0.0-a", "1.0.0", "1.2.3", "1.3.0", "2.0.0-a");
        has(checks, "^1.2.4", "1.3.0", "2.0.0-a");
        has(checks, "^0.2.0", "0.2.0", "0.3.0-a");
        has(checks, "^0.2.1", "0.3.0-a");
        has(checks, "^0.1.9");
        has(checks, "^0.0.3", "0.0.3");
        has(checks, "^0.0.0", "0.0.0");
        has(checks, "^0.0.0-a", "0.0.0");
        has(checks, "^2.0.0", "2.0.0");
        has(checks, "^2.0.0-a", "2.0.0-a", "2.0.0");
        checks.due("^0.0.3 has 0.0.4-a", Run.with("0.0.4-a", "0.0.4").match("^0.0.3"), 1);
        checks.due("^1.0.0 has not 10.0.0", Run.with("10.0.0", "1.10.0").match("^1.0.0"), 2);
    }

    private static void tildes(Checks checks) {
        has(checks, "~1.2.3", "1.2.3");
        has(checks, "~1.2.0", "1.2.3");
        has(checks, "~1.2.4");
        has(checks, "~1.0.0-a", "1.0.0-a", "1.0.0");
        has(checks, "~0.2.0", "0.2.0", "0.3.0-a");
        has(checks, "~0.0.0", "0.0.0", "0.0.3", "0.0.4");
        has(checks, "~0.0.4", "0.0.4");
        has(checks, "~2.0.0-a", "2.0.0-a", "2.0.0");
        checks.due("~1.2.3 to 1.3.0", Run.with("1.2.2", "1.2.9", "1.3.0-0", "1.3.0").match("~1.2.3"), 6);
    }

    private static void choicesAndTests(Checks checks) {
        has(checks, ">=0.3.0 <1.2.3", "0.3.0", "1.0.0-a", "1.0.0");
        has(checks, ">=0.3.0 <1.2.3 >0.3.0 <=1.0.0-a", "1.0.0-a");
        has(checks, "0.0.0 1.0.0");
        has(checks, "0.0.0 || 1.0.0", "0.0.0", "1.0.0");
        has(checks, "0.0.0 || 0.0.0 || 2.0.0 || ~1.2.0", "0.0.0", "2.0.0", "1.2.3");
        has(checks, "<0.0.3 >1.0.0 || 0.2.0", "0.2.0");
        has(checks, "0.2.0 || <0.0.3 >1.0.0", "0.2.0");
        has(checks, ">0.0.0 <0.0.4 || >1.2.3 <2.0.0-a", "0.0.3", "1.3.0");
        has(checks, "* 1.0.0", "1.0.0");
        has(checks, "1.0.0 *", "1.0.0");
        has(checks, "^1.0.0 <1.3.0", "1.0.0", "1.2.3");
        has(checks, "^1.0.0 <=2.0.0 || >=2.0.0", "1.0.0", "1.2.3", "1.3.0", "2.0.0-a", "2.0.0");
    }

    private static void highestNumbers(Checks checks) {
        String top = "999999999.999999999.999999999";
        Run run = Run.with(top, "999999999.0.0", "0.999999999.0", "0.0.999999999");
        checks.due("^ of the top", run.match("^" + top), 1);
        checks.due("~ of the top", run.match("~" + top), 1);
        checks.due("^999999999.0.0", run.match("^999999999.0.0"), 3);
        checks.due("~999999999.0.0", run.match("~999999999.0.0"), 2);
        checks.due("^0.999999999.0", run.match("^0.999999999.0"), 4);
        checks.due("^0.0.999999999", run.match("^0.0.999999999"), 8);
        checks.due("<= the top", run.match("<=" + top), 15);
        checks.due("> the top", run.match(">" + top), 0);
    }

    private static void precedenceDecides(Checks checks) {
        Run run = Run.with("1.0.0-9", "1.0.0-10", "1.0.0-9a", "1.0.0-a", "1.0.0-a.b", "1.0.0-" + Run.LONGEST_PRE);
        checks.due(">1.0.0-9", run.match(">1.0.0-9"), 62);
        checks.due("<1.0.0-a", run.match("<1.0.0-a"), 7);
        checks.due("<=1.0.0-a.b", run.match("<=1.0.0-a.b"), 31);
        checks.due("the longest", run.match("=1.0.0-" + Run.LONGEST_PRE), 32);
        checks.due("<0.0.0-needs", run.match("<0.0.0-needs"), 0);
    }

    private static void tapeIsEmptiedAndTheListStays(Checks checks) {
        Run run = Run.with("1.0.0-a", "2.0.0");
        run.match("*");
        checks.due("end(1) after bits", run.x.end(1), VersionRanges.REFUSED);
        run.match("<9.9.9 x");
        checks.due("end(1) after FAULT", run.x.end(1), VersionRanges.REFUSED);
        checks.due("match() of nothing", run.x.match(), VersionRanges.FAULT);
        run.match("^3.4.5-z || ~6.7.8-y");
        checks.due("part(0, 0)", run.x.part(0, 0), 1);
        checks.due("part(0, 3)", run.x.part(0, 3), 1);
        checks.due("take after match", run.take("3.0.0"), 2);
        checks.due("match the new one", run.match(">2.0.0"), 4);
    }

    private static void wordsStopAtTheLastByte(Checks checks) {
        String[] broken = {"<", ">", "=", "^", "~", "<=", "|", "||", "* ||", "* |", "*<", "^1.0", "^1.0.0-", "needs"};
        for (String text : broken) {
            String blanks = " ".repeat(400 - text.length());
            checks.due("match '" + text + "' at byte 400", Run.with(ROW).match(blanks + text), VersionRanges.FAULT);
        }
        checks.due("match ^1.2.3 at byte 400", Run.with(ROW).match(" ".repeat(394) + "^1.2.3"), 1792);
        Run cut = Run.with(ROW);
        cut.put("* || x");
        cut.x.end(1);
        checks.due("match of the first byte of '* || x'", cut.x.match(), 4095);
    }
}
