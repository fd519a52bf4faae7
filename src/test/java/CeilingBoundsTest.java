/** The boundaries of the tests ^ and ~: where what they have begins, and where it ends. */
public final class CeilingBoundsTest {
    public static void main(String[] args) {
        Cases cases = new Cases();
        cases.add("^: with a major, below major + 1, 0, 0", CeilingBoundsTest::caretOfMajor);
        cases.add("^: for major 0, below 0, minor + 1, 0", CeilingBoundsTest::caretOfMinor);
        cases.add("^: for both 0, below 0, 0, patch + 1", CeilingBoundsTest::caretOfPatch);
        cases.add("^: for all 0, below 0, 0, 1", CeilingBoundsTest::caretOfZeros);
        cases.add("^: the version below which it is has no PRE", CeilingBoundsTest::caretCeilingHasNoPre);
        cases.add("^: at or above a v with PRE", CeilingBoundsTest::caretOfPre);
        cases.add("^: major 999999999 has a major + 1", CeilingBoundsTest::caretOfHighestMajor);
        cases.add("^: minor 999999999 does not wrap into major", CeilingBoundsTest::caretOfHighestMinor);
        cases.add("^: patch 999999999 does not wrap into minor", CeilingBoundsTest::caretOfHighestPatch);
        cases.add("^: the highest version", CeilingBoundsTest::caretOfHighest);
        cases.add("~: below major, minor + 1, 0", CeilingBoundsTest::tilde);
        cases.add("~: for major 0 the same", CeilingBoundsTest::tildeOfMajorZero);
        cases.add("~: for both 0 the same", CeilingBoundsTest::tildeOfZeros);
        cases.add("~: the version below which it is has no PRE", CeilingBoundsTest::tildeCeilingHasNoPre);
        cases.add("~: at or above a v with PRE", CeilingBoundsTest::tildeOfPre);
        cases.add("~: minor 999999999 does not wrap into major", CeilingBoundsTest::tildeOfHighestMinor);
        cases.add("~: the highest version", CeilingBoundsTest::tildeOfHighest);
        cases.finish();
    }

    private static void caretOfMajor(Checks checks) {
        Ask.hasNot(checks, "^1.2.3", "0.0.0", "1.0.0", "1.2.2", "1.2.3-zzzzzzzz");
        Ask.has(checks, "^1.2.3", "1.2.3", "1.2.4-0", "1.3.0", "1.999999999.999999999");
        Ask.hasNot(checks, "^1.2.3", "2.0.0", "2.0.1-0", "2.2.3", "10.0.0");
        Ask.has(checks, "^1.0.0", "1.0.0", "1.0.1", "1.1.0");
        Ask.hasNot(checks, "^1.0.0", "1.0.0-a", "2.0.0");
        Ask.has(checks, "^9.0.0", "9.9.9");
        Ask.hasNot(checks, "^9.0.0", "10.0.0");
    }

    private static void caretOfMinor(Checks checks) {
        Ask.hasNot(checks, "^0.2.3", "0.0.3", "0.2.2", "0.2.3-zzzzzzzz");
        Ask.has(checks, "^0.2.3", "0.2.3", "0.2.4-0", "0.2.999999999");
        Ask.hasNot(checks, "^0.2.3", "0.3.0", "0.3.1-0", "0.3.3", "1.0.0", "1.2.3");
        Ask.has(checks, "^0.1.0", "0.1.0", "0.1.1");
        Ask.hasNot(checks, "^0.1.0", "0.0.999999999", "0.2.0");
    }

    private static void caretOfPatch(Checks checks) {
        Ask.hasNot(checks, "^0.0.3", "0.0.0", "0.0.2", "0.0.3-zzzzzzzz");
        Ask.has(checks, "^0.0.3", "0.0.3");
        Ask.hasNot(checks, "^0.0.3", "0.0.4", "0.0.5", "0.1.0", "0.1.3", "1.0.0");
    }

    private static void caretOfZeros(Checks checks) {
        Ask.hasNot(checks, "^0.0.0", "0.0.0-0", "0.0.0-zzzzzzzz");
        Ask.has(checks, "^0.0.0", "0.0.0");
        Ask.hasNot(checks, "^0.0.0", "0.0.1", "0.1.0", "1.0.0");
    }

    private static void caretCeilingHasNoPre(Checks checks) {
        Ask.has(checks, "^1.2.3", "2.0.0-0", "2.0.0-zzzzzzzz");
        Ask.has(checks, "^0.2.3", "0.3.0-0", "0.3.0-zzzzzzzz");
        Ask.has(checks, "^0.0.3", "0.0.4-0", "0.0.4-zzzzzzzz");
        Ask.has(checks, "^0.0.0", "0.0.1-0", "0.0.1-zzzzzzzz");
        Ask.has(checks, "^1.2.3-b.c", "2.0.0-a", "2.0.0-b.c", "2.0.0-c");
        Ask.hasNot(checks, "^1.2.3-b.c", "2.0.0");
    }

    private static void caretOfPre(Checks checks) {
        Ask.hasNot(checks, "^1.2.3-b", "1.2.3-a", "1.2.3-a.z", "1.2.2");
        Ask.has(checks, "^1.2.3-b", "1.2.3-b", "1.2.3-b.0", "1.2.3", "1.9.0");
        Ask.has(checks, "^0.2.3-b", "0.2.3-b", "0.2.3", "0.2.9");
        Ask.hasNot(checks, "^0.2.3-b", "0.2.3-a", "0.3.0");
        Ask.has(checks, "^0.0.3-b", "0.0.3-b", "0.0.3");
        Ask.hasNot(checks, "^0.0.3-b", "0.0.3-a", "0.0.4");
        Ask.has(checks, "^0.0.0-0", "0.0.0-0", "0.0.0-1", "0.0.0");
        Ask.hasNot(checks, "^0.0.0-0", "0.0.1");
    }

    private static void caretOfHighestMajor(Checks checks) {
        Ask.has(checks, "^999999999.0.0", "999999999.0.0", Ask.HIGHEST);
        Ask.hasNot(checks, "^999999999.0.0", "999999999.0.0-z", "999999998.999999999.999999999", "0.0.0");
    }

    private static void caretOfHighestMinor(Checks checks) {
        Ask.has(checks, "^0.999999999.5", "0.999999999.5", "0.999999999.999999999");
        Ask.hasNot(checks, "^0.999999999.5", "0.999999999.4", "1.0.0-0", "1.0.0", "0.0.5", "1.999999999.5");
    }

    private static void caretOfHighestPatch(Checks checks) {
        Ask.has(checks, "^0.0.999999999", "0.0.999999999");
        Ask.hasNot(checks, "^0.0.999999999", "0.0.999999998", "0.1.0-0", "0.1.0", "0.0.0", "1.0.999999999");
    }

    private static void caretOfHighest(Checks checks) {
        Ask.has(checks, "^" + Ask.HIGHEST, Ask.HIGHEST);
        Ask.hasNot(checks, "^" + Ask.HIGHEST, Ask.HIGHEST + "-z", "999999999.999999999.999999998", "0.0.0");
    }

    private static void tilde(Checks checks) {
        Ask.hasNot(checks, "~1.2.3", "0.2.3", "1.2.2", "1.2.3-zzzzzzzz");
        Ask.has(checks, "~1.2.3", "1.2.3", "1.2.4-0", "1.2.999999999");
        Ask.hasNot(checks, "~1.2.3", "1.3.0", "1.3.1-0", "1.3.3", "1.10.0", "2.0.0", "2.2.3");
        Ask.has(checks, "~1.0.0", "1.0.0", "1.0.1");
        Ask.hasNot(checks, "~1.0.0", "1.1.0");
    }

    private static void tildeOfMajorZero(Checks checks) {
        Ask.hasNot(checks, "~0.2.3", "0.2.2", "0.0.3");
        Ask.has(checks, "~0.2.3", "0.2.3", "0.2.999999999");
        Ask.hasNot(checks, "~0.2.3", "0.3.0", "1.0.0", "1.2.3");
    }

    private static void tildeOfZeros(Checks checks) {
        Ask.hasNot(checks, "~0.0.3", "0.0.2", "0.0.3-z");
        Ask.has(checks, "~0.0.3", "0.0.3", "0.0.4", "0.0.999999999");
        Ask.hasNot(checks, "~0.0.3", "0.1.0", "1.0.0");
        Ask.has(checks, "~0.0.0", "0.0.0", "0.0.1", "0.0.999999999");
        Ask.hasNot(checks, "~0.0.0", "0.0.0-z", "0.1.0");
    }

    private static void tildeCeilingHasNoPre(Checks checks) {
        Ask.has(checks, "~1.2.3", "1.3.0-0", "1.3.0-zzzzzzzz");
        Ask.has(checks, "~0.0.3", "0.1.0-0", "0.1.0-zzzzzzzz");
        Ask.has(checks, "~1.2.3-b.c", "1.3.0-a", "1.3.0-b.c", "1.3.0-c");
        Ask.hasNot(checks, "~1.2.3-b.c", "1.3.0");
    }

    private static void tildeOfPre(Checks checks) {
        Ask.hasNot(checks, "~1.2.3-b", "1.2.3-a", "1.2.3-a.z", "1.2.2");
        Ask.has(checks, "~1.2.3-b", "1.2.3-b", "1.2.3-b.0", "1.2.3", "1.2.4");
        Ask.has(checks, "~0.0.0-0", "0.0.0-0", "0.0.0", "0.0.1");
    }

    private static void tildeOfHighestMinor(Checks checks) {
        Ask.has(checks, "~1.999999999.5", "1.999999999.5", "1.999999999.999999999");
        Ask.hasNot(checks, "~1.999999999.5", "1.999999999.4", "2.0.0-0", "2.0.0", "1.0.5");
    }

    private static void tildeOfHighest(Checks checks) {
        Ask.has(checks, "~" + Ask.HIGHEST, Ask.HIGHEST);
        Ask.hasNot(checks, "~" + Ask.HIGHEST, Ask.HIGHEST + "-z", "999999999.999999999.999999998", "0.0.0");
    }
}
