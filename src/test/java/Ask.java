/** What the boundary cases ask of texts; each text has a new object, but where a run is given. */
final class Ask {
    /** The lowest version and the highest one that there are. */
    static final String LOWEST = "0.0.0-0";
    static final String HIGHEST = "999999999.999999999.999999999";

    private Ask() {
    }

    /** Each word is a version, for take and in a test. */
    static void isVersion(Checks checks, String... words) {
        for (String word : words) {
            checks.due("take '" + word + "'", new Run().take(word), 0);
            checks.due("match '" + word + "' of itself", Run.with(word).match(word), 1);
        }
    }

    /** Each word is no version, neither for take nor in a test. */
    static void isNoVersion(Checks checks, String... words) {
        for (String word : words) {
            isNotTaken(checks, word);
            isNoRange(checks, "=" + word, ">=" + word, "^" + word);
        }
    }

    static void isNotTaken(Checks checks, String... texts) {
        for (String text : texts) {
            Run run = new Run();
            checks.due("take '" + text + "'", run.take(text), VersionRanges.FAULT);
            checks.due("clear() after take '" + text + "'", run.x.clear(), 0);
        }
    }

    static void isRange(Checks checks, String... texts) {
        for (String text : texts) {
            checks.due("match '" + text + "' of no version", new Run().match(text), 0);
        }
    }

    static void isNoRange(Checks checks, String... texts) {
        for (String text : texts) {
            checks.due("match '" + text + "' of no version", new Run().match(text), VersionRanges.FAULT);
            checks.due("match '" + text + "'", Run.with("1.0.0", "2.0.0").match(text), VersionRanges.FAULT);
        }
    }

    static void has(Checks checks, String range, String... versions) {
        for (String version : versions) {
            checks.due("match '" + range + "' of " + version, Run.with(version).match(range), 1);
        }
    }

    static void hasNot(Checks checks, String range, String... versions) {
        for (String version : versions) {
            checks.due("match '" + range + "' of " + version, Run.with(version).match(range), 0);
        }
    }

    /** Each is below the next, and so below all behind it. */
    static void rises(Checks checks, String... versions) {
        for (int i = 0; i < versions.length; i++) {
            for (int j = i + 1; j < versions.length; j++) {
                VersionRanges x = Run.with(versions[i], versions[j]).x;
                checks.due("compare " + versions[i] + " with " + versions[j], x.compare(0, 1), -1);
                checks.due("compare " + versions[j] + " with " + versions[i], x.compare(1, 0), 1);
            }
        }
    }

    /** The marks, each as all of a PRE, rise. */
    static void marksRise(Checks checks, String... marks) {
        String[] versions = new String[marks.length];
        for (int m = 0; m < marks.length; m++) {
            versions[m] = "1.0.0-" + marks[m];
        }
        rises(checks, versions);
    }

    static void tapeIsEmpty(Checks checks, VersionRanges x) {
        checks.due("end(1) of an empty tape", x.end(1), VersionRanges.REFUSED);
        checks.due("end(0) of an empty tape", x.end(0), 0);
        checks.due("take() of an empty tape", x.take(), VersionRanges.FAULT);
        checks.due("feed to an empty tape", x.feed(0, 0, 0, 0, 0), 20);
    }

    /** The tape is still this text, a version, which is taken as the number that is given. */
    static void tapeIsStill(Checks checks, Run run, String version, int number) {
        checks.due("end(" + (version.length() + 1) + ")", run.x.end(version.length() + 1), VersionRanges.REFUSED);
        checks.due("end(" + version.length() + ")", run.x.end(version.length()), version.length());
        checks.due("take() of " + version, run.x.take(), number);
        checks.due("match " + version, run.match(version) >> number & 1, 1);
    }

    /** The run's list is still these versions, in this order, and no more. */
    static void listIsStill(Checks checks, Run run, String... versions) {
        for (int k = 0; k < versions.length; k++) {
            checks.due("match " + versions[k] + ", bit " + k, run.match(versions[k]) >> k & 1, 1);
        }
        checks.due("rank behind the last", run.x.rank(versions.length), VersionRanges.NONE);
        checks.due("clear()", run.x.clear(), versions.length);
    }
}
