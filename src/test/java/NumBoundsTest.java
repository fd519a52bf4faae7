/** The boundaries of NUM, in each of its three places. */
public final class NumBoundsTest {
    public static void main(String[] args) {
        Cases cases = new Cases();
        cases.add("NUM: 1 digit at least", NumBoundsTest::oneDigitAtLeast);
        cases.add("NUM: one digit, each of the ten", NumBoundsTest::oneDigit);
        cases.add("NUM: 9 digits", NumBoundsTest::nineDigits);
        cases.add("NUM: not 10 digits", NumBoundsTest::notTenDigits);
        cases.add("NUM: not so many that an int or a long wraps around", NumBoundsTest::noWrapAround);
        cases.add("NUM: 0 alone", NumBoundsTest::zeroAlone);
        cases.add("NUM: the first digit not 0 if there are more", NumBoundsTest::firstNotZero);
        cases.add("NUM: a 0 behind the first digit", NumBoundsTest::zerosBehind);
        cases.add("NUM: digits alone", NumBoundsTest::digitsAlone);
        cases.finish();
    }

    private static String[] inEachPlace(String num) {
        return new String[] {num + ".1.1", "1." + num + ".1", "1.1." + num, "1.1." + num + "-a"};
    }

    private static void reads(Checks checks, String num, int value) {
        String[] versions = inEachPlace(num);
        Ask.isVersion(checks, versions);
        for (int place = 0; place < 3; place++) {
            checks.due("part of " + versions[place], Run.with(versions[place]).x.part(0, place), value);
        }
        checks.due("part of " + versions[3], Run.with(versions[3]).x.part(0, 2), value);
    }

    private static void isNone(Checks checks, String... nums) {
        for (String num : nums) {
            Ask.isNoVersion(checks, inEachPlace(num));
        }
    }

    private static void oneDigitAtLeast(Checks checks) {
        isNone(checks, "");
    }

    private static void oneDigit(Checks checks) {
        for (int digit = 0; digit < 10; digit++) {
            reads(checks, "" + digit, digit);
        }
    }

    private static void nineDigits(Checks checks) {
        reads(checks, "99999999", 99999999);
        reads(checks, "100000000", 100000000);
        reads(checks, "123456789", 123456789);
        reads(checks, "999999999", 999999999);
    }

    private static void notTenDigits(Checks checks) {
        isNone(checks, "1000000000", "1234567890", "9999999999", "2147483647", "2147483648", "12345678901");
    }

    private static void noWrapAround(Checks checks) {
        isNone(checks, "4294967295", "4294967296", "4294967297", "9223372036854775807", "9223372036854775809",
                "18446744073709551616", "18446744073709551617", "1" + "0".repeat(64), "1".repeat(300));
    }

    private static void zeroAlone(Checks checks) {
        reads(checks, "0", 0);
        Ask.isVersion(checks, "0.0.0", "0.0.0-0");
    }

    private static void firstNotZero(Checks checks) {
        isNone(checks, "00", "01", "09", "000", "010", "00000000", "012345678", "000000000", "000000001");
        isNone(checks, "0123456789", "0000000000", "00000000000000000001");
    }

    private static void zerosBehind(Checks checks) {
        reads(checks, "10", 10);
        reads(checks, "101", 101);
        reads(checks, "900000000", 900000000);
    }

    private static void digitsAlone(Checks checks) {
        for (int other = 0; other < 256; other++) {
            boolean digit = other >= '0' && other <= '9';
            if (!digit && other != ' ') {
                String odd = "" + (char) other;
                Ask.isNotTaken(checks, odd + ".1.1", "1." + odd + ".1", "1.1." + odd);
                Ask.isNotTaken(checks, "1" + odd + "1.1.1", "1.1" + odd + "1.1", odd + "1.1.1");
            }
        }
        isNone(checks, "-1", "+1", "1a", "0x1", "1e1", "1_0", "a", "*", "x");
    }
}
