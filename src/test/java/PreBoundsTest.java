/** The boundaries of PRE and MARK. */
public final class PreBoundsTest {
    public static void main(String[] args) {
        Cases cases = new Cases();
        cases.add("PRE: 1 mark at least", PreBoundsTest::oneMarkAtLeast);
        cases.add("PRE: up to 4 marks", PreBoundsTest::fourMarks);
        cases.add("PRE: not 5 marks", PreBoundsTest::notFiveMarks);
        cases.add("PRE: one point between marks", PreBoundsTest::onePointBetween);
        cases.add("PRE: no point before or behind", PreBoundsTest::noPointAround);
        cases.add("PRE: nothing else between marks", PreBoundsTest::nothingElseBetween);
        cases.add("MARK: 1 byte at least, in each place", PreBoundsTest::oneByteAtLeast);
        cases.add("MARK: up to 8 bytes, in each place", PreBoundsTest::eightBytes);
        cases.add("MARK: not 9 bytes, in each place", PreBoundsTest::notNineBytes);
        cases.add("MARK: letters small or not, digits and -, no other byte", PreBoundsTest::itsBytes);
        cases.add("MARK: 0 alone is a number", PreBoundsTest::zeroAlone);
        cases.add("MARK: the first digit of a number not 0 if there are more", PreBoundsTest::firstNotZero);
        cases.add("MARK: a 0 behind the first digit", PreBoundsTest::zerosBehind);
        cases.add("MARK: a first 0 where not all are digits", PreBoundsTest::zeroFirstInOthers);
        cases.finish();
    }

    private static String[] inEachPlace(String mark) {
        return new String[] {
            "1.0.0-" + mark, "1.0.0-" + mark + ".b", "1.0.0-a." + mark, "1.0.0-a." + mark + ".c",
            "1.0.0-a.b." + mark, "1.0.0-a.b." + mark + ".d", "1.0.0-a.b.c." + mark,
        };
    }

    private static void isMark(Checks checks, String... marks) {
        for (String mark : marks) {
            Ask.isVersion(checks, inEachPlace(mark));
            checks.due("bytes of PRE " + mark, Run.with("1.0.0-" + mark).x.part(0, 3), mark.length());
        }
    }

    private static void isNoMark(Checks checks, String... marks) {
        for (String mark : marks) {
            Ask.isNoVersion(checks, inEachPlace(mark));
        }
    }

    private static void oneMarkAtLeast(Checks checks) {
        Ask.isNoVersion(checks, "1.0.0-");
        Ask.isVersion(checks, "1.0.0-a");
    }

    private static void fourMarks(Checks checks) {
        Ask.isVersion(checks, "1.0.0-a.b", "1.0.0-a.b.c", "1.0.0-a.b.c.d", "1.0.0-0.0.0.0", "1.0.0--.-.-.-");
        Ask.isVersion(checks, "1.0.0-" + Run.LONGEST_PRE);
        checks.due("bytes of the longest", Run.with("1.0.0-" + Run.LONGEST_PRE).x.part(0, 3), 35);
    }

    private static void notFiveMarks(Checks checks) {
        Ask.isNoVersion(checks, "1.0.0-a.b.c.d.e", "1.0.0-0.0.0.0.0", "1.0.0-a.b.c.d.0", "1.0.0-a.b.c.d.e.f");
        Ask.isNoVersion(checks, "1.0.0-" + Run.LONGEST_PRE + ".a", "1.0.0-a" + ".a".repeat(100));
    }

    private static void onePointBetween(Checks checks) {
        Ask.isNoVersion(checks, "1.0.0-a..b", "1.0.0-a.b..c", "1.0.0-a.b.c..d", "1.0.0-a...b", "1.0.0-0..0");
    }

    private static void noPointAround(Checks checks) {
        Ask.isNoVersion(checks, "1.0.0-.", "1.0.0-.a", "1.0.0-a.", "1.0.0-a.b.", "1.0.0-a.b.c.", "1.0.0-a.b.c.d.");
    }

    private static void nothingElseBetween(Checks checks) {
        Ask.isNoVersion(checks, "1.0.0-a,b", "1.0.0-a+b", "1.0.0-a_b", "1.0.0-a:b", "1.0.0-a/b", "1.0.0-a|b");
    }

    private static void oneByteAtLeast(Checks checks) {
        isNoMark(checks, "");
        isMark(checks, "a", "Z", "1", "-");
    }

    private static void eightBytes(Checks checks) {
        isMark(checks, "abcdefgh", "ABCDEFGH", "12345678", "99999999", "--------", "a-1-Z-9-", "0000000a");
    }

    private static void notNineBytes(Checks checks) {
        isNoMark(checks, "abcdefghi", "ABCDEFGHI", "123456789", "999999999", "---------", "00000000a", "a".repeat(16));
        isNoMark(checks, "a".repeat(17), "1".repeat(20), "4294967296");
    }

    private static void itsBytes(Checks checks) {
        String allowed = "abcdefghijklmnopqrstuvwxyzABCDEFGHIJKLMNOPQRSTUVWXYZ0123456789-";
        for (int one = 0; one < 256; one++) {
            String mark = "" + (char) one;
            if (allowed.contains(mark)) {
                Ask.isVersion(checks, "1.0.0-" + mark, "1.0.0-a" + mark + "b");
            } else if (one != ' ') {
                Ask.isNotTaken(checks, "1.0.0-" + mark, "1.0.0-a" + mark, "1.0.0-" + mark + "a");
            }
        }
    }

    private static void zeroAlone(Checks checks) {
        isMark(checks, "0");
    }

    private static void firstNotZero(Checks checks) {
        isNoMark(checks, "00", "01", "09", "000", "0000000", "00000000", "01234567");
    }

    private static void zerosBehind(Checks checks) {
        isMark(checks, "10", "101", "10000000", "90000000");
    }

    private static void zeroFirstInOthers(Checks checks) {
        isMark(checks, "0a", "00a", "0-", "00-", "-0", "-00", "a0", "a00", "0a0", "0-0", "00000-00");
    }
}
