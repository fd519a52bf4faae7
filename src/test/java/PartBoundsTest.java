/** The boundaries of promise 6: part. */
public final class PartBoundsTest {
    private static final int[] OTHERS = {-1, -2, 4, 5, 7, Integer.MIN_VALUE, Integer.MAX_VALUE};
    private static final int[] NEVER_THERE = {-1, -2, 12, 13, Integer.MIN_VALUE, Integer.MAX_VALUE};

    public static void main(String[] args) {
        Cases cases = new Cases();
        cases.add("part: 0 is major", checks -> part(checks, 0, 7));
        cases.add("part: 1 is minor", checks -> part(checks, 1, 8));
        cases.add("part: 2 is patch", checks -> part(checks, 2, 9));
        cases.add("part: 3 is how many bytes PRE has", checks -> part(checks, 3, 6));
        cases.add("part: the least numbers", PartBoundsTest::leastNumbers);
        cases.add("part: the highest numbers", PartBoundsTest::highestNumbers);
        cases.add("part: PRE, 0 without", PartBoundsTest::withoutPre);
        cases.add("part: PRE, from 1 byte to 35, its points too", PartBoundsTest::bytesOfPre);
        cases.add("part: NONE if there is no version k", PartBoundsTest::missing);
        cases.add("part: NONE for the number behind the last", PartBoundsTest::behindTheLast);
        cases.add("part: REFUSED for another which", PartBoundsTest::otherWhich);
        cases.add("part: REFUSED first, before NONE", PartBoundsTest::refusedFirst);
        cases.add("part: NONE after clear", PartBoundsTest::afterClear);
        cases.finish();
    }

    private static void part(Checks checks, int which, int due) {
        checks.due("part(0, " + which + ")", Run.with("7.8.9-ab.c-d").x.part(0, which), due);
    }

    private static void leastNumbers(Checks checks) {
        VersionRanges x = Run.with("0.0.0").x;
        for (int which = 0; which < 4; which++) {
            checks.due("part(0, " + which + ")", x.part(0, which), 0);
        }
    }

    private static void highestNumbers(Checks checks) {
        VersionRanges x = Run.with(Ask.HIGHEST).x;
        for (int which = 0; which < 3; which++) {
            checks.due("part(0, " + which + ")", x.part(0, which), 999999999);
        }
    }

    private static void withoutPre(Checks checks) {
        VersionRanges x = Run.with("1.2.3", " 1.2.3 ", "1.2.3-a", "1.2.3").x;
        checks.due("part(0, 3)", x.part(0, 3), 0);
        checks.due("part(1, 3)", x.part(1, 3), 0);
        checks.due("part(3, 3)", x.part(3, 3), 0);
    }

    private static void bytesOfPre(Checks checks) {
        for (int bytes = 1; bytes <= Run.LONGEST_PRE.length(); bytes++) {
            String pre = Run.LONGEST_PRE.substring(0, bytes);
            if (!pre.endsWith(".")) {
                checks.due("part(0, 3) of " + pre, Run.with("1.2.3-" + pre).x.part(0, 3), bytes);
                checks.due("part(0, 3) of " + pre + " in blanks", Run.with(" 1.2.3-" + pre + "  ").x.part(0, 3), bytes);
            }
        }
        checks.due("part(0, 3) of -", Run.with("1.2.3--").x.part(0, 3), 1);
        checks.due("part(0, 3) of 0.0.0.0", Run.with("1.2.3-0.0.0.0").x.part(0, 3), 7);
    }

    private static void missing(Checks checks) {
        for (int k : NEVER_THERE) {
            for (int which = 0; which < 4; which++) {
                checks.due("part(" + k + ", " + which + ")", Run.full().x.part(k, which), VersionRanges.NONE);
            }
        }
        checks.due("part(0, 0) of none", new VersionRanges().part(0, 0), VersionRanges.NONE);
    }

    private static void behindTheLast(Checks checks) {
        Run run = new Run();
        for (int last = 0; last < 12; last++) {
            run.take("1.0." + last);
            checks.due("part(" + last + ", 2)", run.x.part(last, 2), last);
            checks.due("part(" + (last + 1) + ", 2)", run.x.part(last + 1, 2), VersionRanges.NONE);
            checks.due("part(" + (last + 1) + ", 3)", run.x.part(last + 1, 3), VersionRanges.NONE);
        }
    }

    private static void otherWhich(Checks checks) {
        for (int which : OTHERS) {
            checks.due("part(0, " + which + ")", Run.with("1.2.3-a").x.part(0, which), VersionRanges.REFUSED);
        }
    }

    private static void refusedFirst(Checks checks) {
        for (int which : OTHERS) {
            checks.due("part(0, " + which + ") of none", new VersionRanges().part(0, which), VersionRanges.REFUSED);
            for (int k : NEVER_THERE) {
                checks.due("part(" + k + ", " + which + ")", Run.full().x.part(k, which), VersionRanges.REFUSED);
            }
        }
    }

    private static void afterClear(Checks checks) {
        VersionRanges x = Run.with("1.2.3-a").x;
        x.clear();
        for (int which = 0; which < 4; which++) {
            checks.due("part(0, " + which + ")", x.part(0, which), VersionRanges.NONE);
        }
        checks.due("part(0, 4)", x.part(0, 4), VersionRanges.REFUSED);
    }
}
