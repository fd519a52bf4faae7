/** Versions as texts, which of two comes first, and ranges that have some of them. */
public final class VersionRanges {
    public static final int REFUSED = -1, NONE = -2, FULL = -3, FAULT = -4;

    private static final int FEED_BYTES = 20;
    private static final int MOST_VERSIONS = 12;
    private static final int MOST_CHOICES = 4;
    private static final int MOST_TESTS = 4;

    // All that a call needs is made once, here: no call makes an object.
    private final Tape tape;
    private final Version[] list;
    private final Version candidate;
    private final RangeTest test;
    private int count;

    public VersionRanges() {
        tape = new Tape();
        list = new Version[MOST_VERSIONS];
        for (int k = 0; k < MOST_VERSIONS; k++) {
            list[k] = new Version();
        }
        candidate = new Version();
        test = new RangeTest();
        count = 0;
    }

    public int feed(int a, int b, int c, int d, int e) {
        if (!tape.hasRoomFor(FEED_BYTES)) {
            return FULL;
        }
        tape.addFour(a);
        tape.addFour(b);
        tape.addFour(c);
        tape.addFour(d);
        tape.addFour(e);
        return tape.length;
    }

    public int end(int n) {
        if (n < 0 || n > tape.length) {
            return REFUSED;
        }
        tape.length = n;
        return n;
    }

    public int take() {
        int answer = addVersionOfTape();
        tape.length = 0;
        return answer;
    }

    public int compare(int k, int j) {
        if (!isListed(k) || !isListed(j)) {
            return NONE;
        }
        return list[k].orderTo(list[j]);
    }

    public int part(int k, int which) {
        if (which < 0 || which > 3) {
            return REFUSED;
        }
        if (!isListed(k)) {
            return NONE;
        }
        return which == 3 ? list[k].preBytes : list[k].number(which);
    }

    public int rank(int k) {
        if (!isListed(k)) {
            return NONE;
        }
        int below = 0;
        for (int j = 0; j < count; j++) {
            if (list[j].orderTo(list[k]) < 0) {
                below++;
            }
        }
        return below;
    }

    public int match() {
        int answer = bitsInRangeOfTape();
        tape.length = 0;
        return answer;
    }

    public int clear() {
        int before = count;
        count = 0;
        return before;
    }

    private boolean isListed(int k) {
        return k >= 0 && k < count;
    }

    // The text is read before the list is looked at: a tape that is no version is a FAULT with 12 too.
    private int addVersionOfTape() {
        if (tape.splitWords() != 1) {
            return FAULT;
        }
        tape.enterWord(0);
        if (!candidate.readFrom(tape)) {
            return FAULT;
        }
        if (count >= MOST_VERSIONS) {
            return FULL;
        }
        list[count].copyFrom(candidate);
        count++;
        return count - 1;
    }

    // Each test is tried on the whole list as soon as it is read, so that no range need be kept.
    private int bitsInRangeOfTape() {
        int words = tape.splitWords();
        int found = 0;
        int choices = 1;
        int tests = 0;
        int choiceBits = allBits();
        for (int w = 0; w < words; w++) {
            tape.enterWord(w);
            if (tape.isAtOrWord()) {
                if (tests == 0 || choices == MOST_CHOICES) {
                    return FAULT;
                }
                found |= choiceBits;
                choices++;
                tests = 0;
                choiceBits = allBits();
            } else {
                if (tests == MOST_TESTS || !test.readFrom(tape)) {
                    return FAULT;
                }
                tests++;
                choiceBits &= bitsOfTest();
            }
        }
        return tests == 0 ? FAULT : found | choiceBits;
    }

    private int allBits() {
        return (1 << count) - 1;
    }

    private int bitsOfTest() {
        int bits = 0;
        for (int k = 0; k < count; k++) {
            if (test.holdsFor(list[k])) {
                bits |= 1 << k;
            }
        }
        return bits;
    }

    /** The bytes that were fed, and a place in one of their words from which it is read. */
    private static final class Tape {
        private static final int MOST_BYTES = 400;
        private static final int MOST_WORDS = 200;
        private static final int MOST_DIGITS = 9;
        private static final int MOST_MARK_BYTES = 8;
        private static final int WRONG = -1;

        private final byte[] bytes = new byte[MOST_BYTES];
        private final int[] starts = new int[MOST_WORDS];
        private final int[] stops = new int[MOST_WORDS];
        private int length = 0;
        private int at = 0;
        private int stop = 0;

        private boolean hasRoomFor(int more) {
            return length + more <= MOST_BYTES;
        }

        private void addFour(int four) {
            for (int shift = 24; shift >= 0; shift -= 8) {
                bytes[length] = (byte) (four >> shift);
                length++;
            }
        }

        private int splitWords() {
            int words = 0;
            for (int i = 0; i < length; i++) {
                if (bytes[i] == ' ') {
                    continue;
                }
                if (i == 0 || bytes[i - 1] == ' ') {
                    starts[words] = i;
                    words++;
                }
                stops[words - 1] = i + 1;
            }
            return words;
        }

        private void enterWord(int word) {
            at = starts[word];
            stop = stops[word];
        }

        private boolean isAtStop() {
            return at == stop;
        }

        private boolean isAtOrWord() {
            return stop - at == 2 && bytes[at] == '|' && bytes[at + 1] == '|';
        }

        private boolean skip(char wanted) {
            if (at < stop && bytes[at] == wanted) {
                at++;
                return true;
            }
            return false;
        }

        private int readNumber() {
            int from = at;
            while (at < stop && isDigit(bytes[at])) {
                at++;
            }
            return numberSince(from);
        }

        private int numberSince(int from) {
            int digits = at - from;
            if (digits < 1 || digits > MOST_DIGITS || digits > 1 && bytes[from] == '0') {
                return WRONG;
            }
            int value = 0;
            for (int i = from; i < at; i++) {
                value = value * 10 + (bytes[i] - '0');
            }
            return value;
        }

        // A mark becomes one long, so that the order of longs is the order of marks: a number is
        // itself, below 2 to the 27; other bytes stand at the top, the first highest, zeros behind
        // them, which is above each number and puts a beginning below what is longer.
        private long readMark() {
            int from = at;
            long packed = 0;
            boolean digitsAlone = true;
            for (; at < stop; at++) {
                boolean digit = isDigit(bytes[at]);
                if (!digit && !isLetterOrHyphen(bytes[at])) {
                    break;
                }
                digitsAlone = digitsAlone && digit;
                packed = packed << 8 | bytes[at];
            }
            int size = at - from;
            if (size < 1 || size > MOST_MARK_BYTES) {
                return WRONG;
            }
            return digitsAlone ? numberSince(from) : packed << 8 * (MOST_MARK_BYTES - size);
        }

        private static boolean isLetterOrHyphen(int b) {
            return b >= 'a' && b <= 'z' || b >= 'A' && b <= 'Z' || b == '-';
        }

        private static boolean isDigit(int b) {
            return b >= '0' && b <= '9';
        }
    }

    /** A version as a row of longs: precedence is the order of the first two that differ. */
    private static final class Version {
        private static final int NUMBERS = 3;
        private static final int MOST_MARKS = 4;
        // In the place of the first mark: a version without PRE is above all marks.
        private static final long WITHOUT_PRE = 0x7fffffffffffffffL;
        // In the place of a mark that is not there: fewer marks are below more.
        private static final long NO_MARK = -1;

        private final long[] row = new long[NUMBERS + MOST_MARKS];
        private int preBytes = 0;

        private int number(int which) {
            return (int) row[which];
        }

        private void setNumbers(long major, long minor, long patch) {
            row[0] = major;
            row[1] = minor;
            row[2] = patch;
            dropPre();
        }

        private void dropPre() {
            preBytes = 0;
            row[NUMBERS] = WITHOUT_PRE;
            for (int m = 1; m < MOST_MARKS; m++) {
                row[NUMBERS + m] = NO_MARK;
            }
        }

        private void copyFrom(Version other) {
            System.arraycopy(other.row, 0, row, 0, row.length);
            preBytes = other.preBytes;
        }

        private int orderTo(Version other) {
            for (int i = 0; i < row.length; i++) {
                if (row[i] != other.row[i]) {
                    return row[i] < other.row[i] ? -1 : 1;
                }
            }
            return 0;
        }

        // Reads to the stop of the word; false if that is no version, and then the row is of no use.
        private boolean readFrom(Tape tape) {
            for (int i = 0; i < NUMBERS; i++) {
                if (i > 0 && !tape.skip('.')) {
                    return false;
                }
                row[i] = tape.readNumber();
                if (row[i] < 0) {
                    return false;
                }
            }
            dropPre();
            return tape.isAtStop() || tape.skip('-') && readPre(tape);
        }

        private boolean readPre(Tape tape) {
            preBytes = tape.stop - tape.at;
            for (int m = 0; m < MOST_MARKS; m++) {
                if (m > 0 && !tape.skip('.')) {
                    return false;
                }
                row[NUMBERS + m] = tape.readMark();
                if (row[NUMBERS + m] < 0) {
                    return false;
                }
                if (tape.isAtStop()) {
                    return true;
                }
            }
            return false;
        }
    }

    /** Whether a test has the versions below its bound, the same, and those above; CARET and TILDE have a ceiling too. */
    private enum Sign {
        ALL(true, true, true),
        SAME(false, true, false),
        BELOW(true, false, false),
        AT_OR_BELOW(true, true, false),
        ABOVE(false, false, true),
        AT_OR_ABOVE(false, true, true),
        CARET(false, true, true),
        TILDE(false, true, true);

        private final boolean hasBelow;
        private final boolean hasSame;
        private final boolean hasAbove;

        Sign(boolean hasBelow, boolean hasSame, boolean hasAbove) {
            this.hasBelow = hasBelow;
            this.hasSame = hasSame;
            this.hasAbove = hasAbove;
        }

        private boolean hasOrder(int order) {
            return order < 0 ? hasBelow : order > 0 ? hasAbove : hasSame;
        }
    }

    /** One test of a range; it is read anew for each word. */
    private static final class RangeTest {
        private final Version bound = new Version();
        private final Version ceiling = new Version();
        private Sign sign = Sign.ALL;

        private boolean readFrom(Tape tape) {
            sign = readSign(tape);
            if (sign == Sign.ALL) {
                return tape.isAtStop();
            }
            if (!bound.readFrom(tape)) {
                return false;
            }
            setCeiling();
            return true;
        }

        private static Sign readSign(Tape tape) {
            if (tape.skip('*')) {
                return Sign.ALL;
            }
            if (tape.skip('<')) {
                return tape.skip('=') ? Sign.AT_OR_BELOW : Sign.BELOW;
            }
            if (tape.skip('>')) {
                return tape.skip('=') ? Sign.AT_OR_ABOVE : Sign.ABOVE;
            }
            if (tape.skip('^')) {
                return Sign.CARET;
            }
            if (tape.skip('~')) {
                return Sign.TILDE;
            }
            // The sign = may be left out: both ways say the same.
            tape.skip('=');
            return Sign.SAME;
        }

        private void setCeiling() {
            long major = bound.number(0);
            long minor = bound.number(1);
            long patch = bound.number(2);
            if (sign == Sign.TILDE) {
                ceiling.setNumbers(major, minor + 1, 0);
            } else if (major > 0) {
                ceiling.setNumbers(major + 1, 0, 0);
            } else if (minor > 0) {
                ceiling.setNumbers(0, minor + 1, 0);
            } else {
                ceiling.setNumbers(0, 0, patch + 1);
            }
        }

        private boolean holdsFor(Version version) {
            if (!sign.hasOrder(version.orderTo(bound))) {
                return false;
            }
            boolean hasCeiling = sign == Sign.CARET || sign == Sign.TILDE;
            return !hasCeiling || version.orderTo(ceiling) < 0;
        }
    }
}
