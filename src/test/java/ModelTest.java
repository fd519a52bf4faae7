/** Long runs of calls, drawn from fixed seeds, with the model's answers as those due. */
public final class ModelTest {
    private static final int RUNS = 600;
    private static final int CALLS = 512;
    private static final String[] NUMBERS = {
        "0", "0", "1", "1", "2", "3", "9", "10", "11", "999999998", "999999999", "1000000000", "01", "00", "",
    };
    private static final String[] MARKS = {
        "0", "1", "2", "9", "10", "99999999", "a", "A", "b", "-", "--", "-1", "1-", "0a", "a0", "ab", "rc", "abcdefg",
        "abcdefgh", "ABCDEFGH", "01", "00", "123456789", "abcdefghi", "", "a_b", "\u00e9",
    };
    private static final String[] SIGNS = {
        "", "", "=", "<", "<=", ">", ">=", "^", "^", "~", "~", "==", "=<", "v", "< ", "*",
    };
    private static final String[] GLUE = {" ", " ", "  ", "||", " | ", "\t", ""};
    private static final String[] WORDS = {"needs", "breaks", "owns", "*", "||", "x", "**", "<"};

    private final Checks checks;
    private final String name;
    private final Run run = new Run();
    private final Model model = new Model();
    private long state;
    private int calls = 0;

    private ModelTest(Checks checks, int seed) {
        this.checks = checks;
        this.name = "seed " + seed + ", call ";
        this.state = seed * 7919L + 1;
    }

    public static void main(String[] args) {
        Checks checks = new Checks();
        for (int seed = 0; seed < RUNS; seed++) {
            new ModelTest(checks, seed).go();
        }
        checks.finish();
    }

    private void go() {
        while (calls < CALLS) {
            step();
        }
    }

    private void step() {
        int kind = below(100);
        if (kind < 30) {
            put(below(8) == 0 ? odd(version()) : version());
            due("take()", run.x.take(), model.take());
        } else if (kind < 65) {
            put(below(8) == 0 ? odd(range()) : range());
            due("match()", run.x.match(), model.match());
        } else if (kind < 75) {
            int k = below(15) - 1;
            int j = below(14) - 1;
            due("compare(" + k + ", " + j + ")", run.x.compare(k, j), model.compare(k, j));
        } else if (kind < 85) {
            int k = below(14) - 1;
            due("rank(" + k + ")", run.x.rank(k), model.rank(k));
        } else if (kind < 95) {
            int k = below(14) - 1;
            int which = below(6) - 1;
            due("part(" + k + ", " + which + ")", run.x.part(k, which), model.part(k, which));
        } else if (kind < 97) {
            due("clear()", run.x.clear(), model.clear());
        } else if (kind < 99) {
            int n = below(60) - 5;
            due("end(" + n + ")", run.x.end(n), model.end(n));
        } else {
            fill();
        }
    }

    private void put(String text) {
        int before = -1;
        for (int from = 0; from < text.length(); from += 20) {
            int fed = feed(Run.four(text, from), Run.four(text, from + 4), Run.four(text, from + 8),
                    Run.four(text, from + 12), Run.four(text, from + 16));
            before = from == 0 ? fed - 20 : before;
        }
        int n = before + text.length();
        due("end(" + n + ") of '" + text + "'", run.x.end(n), model.end(n));
    }

    private int feed(int a, int b, int c, int d, int e) {
        int want = model.feed(a, b, c, d, e);
        due("feed", run.x.feed(a, b, c, d, e), want);
        return want;
    }

    private void fill() {
        for (int i = 0; i < 22; i++) {
            feed(0x20202020, 0x20202020, 0x20202020, 0x20202020, 0x20202020);
        }
        if (below(2) == 0) {
            int n = below(401);
            due("end(" + n + ")", run.x.end(n), model.end(n));
        }
    }

    private void due(String call, int got, int want) {
        calls++;
        checks.due(name + calls + ": " + call, got, want);
    }

    private String version() {
        StringBuilder text = new StringBuilder();
        text.append(number()).append('.').append(number()).append('.').append(number());
        if (below(2) == 0) {
            text.append('-').append(mark());
            for (int m = below(below(10) == 0 ? 6 : 3); m > 0; m--) {
                text.append('.').append(mark());
            }
        }
        return text.toString();
    }

    private String number() {
        return NUMBERS[below(below(12) == 0 ? NUMBERS.length : 6)];
    }

    private String mark() {
        return MARKS[below(below(8) == 0 ? MARKS.length : 20)];
    }

    private String range() {
        StringBuilder text = new StringBuilder(choice());
        for (int c = below(below(10) == 0 ? 6 : 3); c > 0; c--) {
            text.append(" || ").append(choice());
        }
        return text.toString();
    }

    private String choice() {
        StringBuilder text = new StringBuilder(test());
        for (int t = below(below(10) == 0 ? 6 : 3); t > 0; t--) {
            text.append(' ').append(test());
        }
        return text.toString();
    }

    private String test() {
        if (below(12) == 0) {
            return below(4) == 0 ? WORDS[below(WORDS.length)] : "*";
        }
        return SIGNS[below(below(12) == 0 ? SIGNS.length : 11)] + version();
    }

    /** The text with one byte changed, left out or put in, or with something at its side. */
    private String odd(String text) {
        int at = below(text.length());
        char other = (char) (below(2) == 0 ? below(256) : 32 + below(96));
        switch (below(5)) {
            case 0: return text.substring(0, at) + other + text.substring(at + 1);
            case 1: return text.substring(0, at) + text.substring(at + 1) + " ";
            case 2: return text.substring(0, at) + other + text.substring(at);
            case 3: return GLUE[below(GLUE.length)] + text + GLUE[below(GLUE.length)];
            default: return text + GLUE[below(GLUE.length)] + WORDS[below(WORDS.length)];
        }
    }

    private int below(int bound) {
        state = state * 6364136223846793005L + 1442695040888963407L;
        return (int) ((state >>> 33) % bound);
    }
}
