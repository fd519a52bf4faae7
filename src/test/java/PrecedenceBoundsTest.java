/** The boundaries of PRECEDENCE. */
public final class PrecedenceBoundsTest {
    public static void main(String[] args) {
        Cases cases = new Cases();
        cases.add("PRECEDENCE: major before all else", PrecedenceBoundsTest::majorFirst);
        cases.add("PRECEDENCE: minor before patch and PRE", PrecedenceBoundsTest::minorSecond);
        cases.add("PRECEDENCE: patch before PRE", PrecedenceBoundsTest::patchThird);
        cases.add("PRECEDENCE: major, minor and patch by their size", PrecedenceBoundsTest::numbersBySize);
        cases.add("PRECEDENCE: with PRE below without", PrecedenceBoundsTest::preBelowWithout);
        cases.add("PRECEDENCE: marks that are numbers by their size", PrecedenceBoundsTest::numberMarksBySize);
        cases.add("PRECEDENCE: a number below what is none", PrecedenceBoundsTest::numberBelowOthers);
        cases.add("PRECEDENCE: others byte by byte", PrecedenceBoundsTest::byteByByte);
        cases.add("PRECEDENCE: others of digits for the most part byte by byte too", PrecedenceBoundsTest::noNumbers);
        cases.add("PRECEDENCE: a beginning below what is longer", PrecedenceBoundsTest::beginningBelow);
        cases.add("PRECEDENCE: the first byte that differs before the length", PrecedenceBoundsTest::byteBeforeLength);
        cases.add("PRECEDENCE: mark by mark, not the whole text", PrecedenceBoundsTest::markByMark);
        cases.add("PRECEDENCE: the first mark that differs decides", PrecedenceBoundsTest::firstMarkDecides);
        cases.add("PRECEDENCE: the fourth mark decides if it must", PrecedenceBoundsTest::fourthMarkDecides);
        cases.add("PRECEDENCE: the one with fewer marks below", PrecedenceBoundsTest::fewerBelow);
        cases.add("PRECEDENCE: the same are neither below nor above", PrecedenceBoundsTest::same);
        cases.add("PRECEDENCE: the lowest and the highest version", PrecedenceBoundsTest::lowestAndHighest);
        cases.finish();
    }

    private static void majorFirst(Checks checks) {
        Ask.rises(checks, "0.999999999.999999999", "1.0.0-0", "1.999999999.999999999", "2.0.0-0");
        Ask.rises(checks, "999999998.999999999.999999999", "999999999.0.0-0");
    }

    private static void minorSecond(Checks checks) {
        Ask.rises(checks, "1.0.999999999", "1.1.0-0", "1.1.999999999", "1.2.0-0");
        Ask.rises(checks, "1.999999998.999999999", "1.999999999.0-0");
    }

    private static void patchThird(Checks checks) {
        Ask.rises(checks, "1.1.0", "1.1.1-0", "1.1.1", "1.1.2-0", "1.1.999999998", "1.1.999999999-0");
    }

    private static void numbersBySize(Checks checks) {
        Ask.rises(checks, "2.0.0", "9.0.0", "10.0.0", "100.0.0", "999999999.0.0");
        Ask.rises(checks, "1.2.0", "1.9.0", "1.10.0", "1.100.0", "1.999999999.0");
        Ask.rises(checks, "1.1.2", "1.1.9", "1.1.10", "1.1.100", "1.1.999999999");
    }

    private static void preBelowWithout(Checks checks) {
        Ask.rises(checks, "1.0.0-0", "1.0.0");
        Ask.rises(checks, "1.0.0-zzzzzzzz", "1.0.0");
        Ask.rises(checks, "1.0.0-zzzzzzzz.zzzzzzzz.zzzzzzzz.zzzzzzzz", "1.0.0");
        Ask.rises(checks, "0.0.0-z", "0.0.0");
        Ask.rises(checks, Ask.HIGHEST + "-z", Ask.HIGHEST);
    }

    private static void numberMarksBySize(Checks checks) {
        Ask.marksRise(checks, "0", "1", "2", "9", "10", "11", "99", "100", "9999999", "10000000", "99999999");
        Ask.marksRise(checks, "a.2", "a.10", "a.99999999");
        Ask.marksRise(checks, "a.b.c.2", "a.b.c.10");
    }

    private static void numberBelowOthers(Checks checks) {
        Ask.marksRise(checks, "99999999", "-");
        Ask.marksRise(checks, "99999999", "0-");
        Ask.marksRise(checks, "99999999", "0a");
        Ask.marksRise(checks, "99999999", "A");
        Ask.marksRise(checks, "99999999", "--------");
        Ask.marksRise(checks, "a.b.c.99999999", "a.b.c.-");
        Ask.marksRise(checks, "99999999.z.z.z", "-");
    }

    private static void byteByByte(Checks checks) {
        Ask.marksRise(checks, "-", "A", "B", "Z", "a", "b", "z");
        Ask.marksRise(checks, "a-", "a0", "a9", "aA", "aZ", "aa", "az");
        Ask.marksRise(checks, "abcdefg-", "abcdefg0", "abcdefgA", "abcdefga", "abcdefgh", "abcdefgz");
        Ask.marksRise(checks, "Azzzzzzz", "a");
    }

    private static void noNumbers(Checks checks) {
        Ask.marksRise(checks, "0-", "00-", "0a", "10a", "1a", "2a", "9999999a", "9a");
        Ask.marksRise(checks, "-10", "-2", "-9");
        Ask.marksRise(checks, "a10", "a2", "a9");
    }

    private static void beginningBelow(Checks checks) {
        Ask.marksRise(checks, "a", "a-", "a--", "a---", "a----", "a-----", "a------", "a-------");
        Ask.marksRise(checks, "a", "ab", "abc", "abcd", "abcde", "abcdef", "abcdefg", "abcdefgh");
        Ask.marksRise(checks, "-", "--", "---", "--------");
        Ask.marksRise(checks, "x.y.z.a", "x.y.z.a-");
    }

    private static void byteBeforeLength(Checks checks) {
        Ask.marksRise(checks, "aaaaaaaa", "ab", "b");
        Ask.marksRise(checks, "zyzzzzzz", "zz");
    }

    private static void markByMark(Checks checks) {
        Ask.marksRise(checks, "a.z", "a-");
        Ask.marksRise(checks, "a.z", "a0");
        Ask.marksRise(checks, "a.z", "aa");
        Ask.marksRise(checks, "1.z", "10");
        Ask.marksRise(checks, "a.b.z", "a.b-.a");
    }

    private static void firstMarkDecides(Checks checks) {
        Ask.marksRise(checks, "a.z.z.z", "b", "b.z.z.z", "c.0.0.0");
        Ask.marksRise(checks, "a.a.z.z", "a.b", "a.b.a.z", "a.b.b");
        Ask.marksRise(checks, "1.z.z.z", "2", "10.0");
    }

    private static void fourthMarkDecides(Checks checks) {
        Ask.marksRise(checks, "a.b.c.0", "a.b.c.1", "a.b.c.-", "a.b.c.d", "a.b.c.dd");
        Ask.marksRise(checks, "1.2.3.4", "1.2.3.10");
        Ask.marksRise(checks, "abcdefgh.abcdefgh.abcdefgh.abcdefgh", "abcdefgh.abcdefgh.abcdefgh.abcdefgi");
    }

    private static void fewerBelow(Checks checks) {
        Ask.marksRise(checks, "0", "0.0", "0.0.0", "0.0.0.0");
        Ask.marksRise(checks, "a", "a.0", "a.0.0", "a.0.0.0");
        Ask.marksRise(checks, "a.b.c", "a.b.c.0");
        Ask.marksRise(checks, "zzzzzzzz.zzzzzzzz.zzzzzzzz", "zzzzzzzz.zzzzzzzz.zzzzzzzz.0");
    }

    private static void same(Checks checks) {
        String[] versions = {
            "0.0.0", "1.2.3", Ask.LOWEST, Ask.HIGHEST, "1.0.0-a", "1.0.0-0.0.0.0", Ask.HIGHEST + "-" + Run.LONGEST_PRE,
        };
        for (String version : versions) {
            VersionRanges x = Run.with(version, version).x;
            checks.due("compare(0, 1) of " + version, x.compare(0, 1), 0);
            checks.due("compare(1, 0) of " + version, x.compare(1, 0), 0);
        }
    }

    private static void lowestAndHighest(Checks checks) {
        String[] others = {"0.0.0-0.0", "0.0.0-1", "0.0.0--", "0.0.0", "1.0.0", Ask.HIGHEST + "-zzzzzzzz"};
        for (String other : others) {
            Ask.rises(checks, Ask.LOWEST, other, Ask.HIGHEST);
        }
    }
}
