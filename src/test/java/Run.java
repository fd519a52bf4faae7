/** An object of the class, with texts in the place of fed ints. */
final class Run {
    static final String LONGEST_PRE = "abcdefgh.ABCDEFGH.12345678.a-b-c-d-";

    final VersionRanges x = new VersionRanges();

    /** Feeds the text to what the tape has, and answers how many bytes it has then. */
    int put(String text) {
        int before = 0;
        int fed = 0;
        for (int from = 0; from < text.length(); from += 20) {
            fed = x.feed(four(text, from), four(text, from + 4), four(text, from + 8),
                    four(text, from + 12), four(text, from + 16));
            if (fed < 0) {
                return fed;
            }
            if (from == 0) {
                before = fed - 20;
            }
        }
        return text.isEmpty() ? 0 : x.end(before + text.length());
    }

    int take(String text) {
        put(text);
        return x.take();
    }

    int match(String text) {
        put(text);
        return x.match();
    }

    /** A run whose list is these versions, in this order. */
    static Run with(String... versions) {
        Run run = new Run();
        for (String version : versions) {
            if (run.take(version) < 0) {
                throw new IllegalStateException("not taken: " + version);
            }
        }
        return run;
    }

    /** A run with twelve versions, 0.0.0 to 11.0.0. */
    static Run full() {
        Run run = new Run();
        for (int k = 0; k < 12; k++) {
            run.take(k + ".0.0");
        }
        return run;
    }

    /** Four bytes of the text as an int, the highest first, with zeros behind its last. */
    static int four(String text, int from) {
        int four = 0;
        for (int i = from; i < from + 4; i++) {
            four = four << 8 | (i < text.length() ? text.charAt(i) & 255 : 0);
        }
        return four;
    }
}
