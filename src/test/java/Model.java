import java.util.ArrayList;
import java.util.List;
import java.util.regex.Matcher;
import java.util.regex.Pattern;

/** The document once more, by other means (texts, patterns, lists), for tests to compare with. */
final class Model {
    private static final String NUM = "(0|[1-9][0-9]{0,8})";
    private static final String MARK = "(?:0|[1-9][0-9]{0,7}|(?=[0-9]*[A-Za-z-])[A-Za-z0-9-]{1,8})";
    private static final Pattern VERSION = Pattern.compile(
            NUM + "\\." + NUM + "\\." + NUM + "(?:-(" + MARK + "(?:\\." + MARK + "){0,3}))?");
    private static final Pattern TEST = Pattern.compile("(<=|>=|[=<>^~]|)([0-9].*)");

    private final StringBuilder tape = new StringBuilder();
    private final List<String> list = new ArrayList<>();

    int feed(int... fours) {
        if (tape.length() + 20 > 400) {
            return -3;
        }
        for (int four : fours) {
            tape.append((char) (four >>> 24)).append((char) (four >>> 16 & 255));
            tape.append((char) (four >>> 8 & 255)).append((char) (four & 255));
        }
        return tape.length();
    }

    int end(int n) {
        if (n < 0 || n > tape.length()) {
            return -1;
        }
        tape.setLength(n);
        return n;
    }

    int take() {
        List<String> words = words();
        if (words.size() != 1 || !isVersion(words.get(0))) {
            return -4;
        }
        if (list.size() == 12) {
            return -3;
        }
        list.add(words.get(0));
        return list.size() - 1;
    }

    int compare(int k, int j) {
        return has(k) && has(j) ? order(list.get(k), list.get(j)) : -2;
    }

    int part(int k, int which) {
        if (which < 0 || which > 3) {
            return -1;
        }
        if (!has(k)) {
            return -2;
        }
        if (which < 3) {
            return (int) number(list.get(k), which);
        }
        return pre(list.get(k)) == null ? 0 : pre(list.get(k)).length();
    }

    int rank(int k) {
        return has(k) ? (int) list.stream().filter(v -> order(v, list.get(k)) < 0).count() : -2;
    }

    int match() {
        List<List<String>> choices = new ArrayList<>();
        choices.add(new ArrayList<>());
        for (String word : words()) {
            if (word.equals("||")) {
                choices.add(new ArrayList<>());
            } else {
                choices.get(choices.size() - 1).add(word);
            }
        }
        if (choices.size() > 4 || !choices.stream().allMatch(Model::isChoice)) {
            return -4;
        }
        int bits = 0;
        for (int k = 0; k < list.size(); k++) {
            String version = list.get(k);
            if (choices.stream().anyMatch(choice -> choice.stream().allMatch(test -> holds(test, version)))) {
                bits += 1 << k;
            }
        }
        return bits;
    }

    int clear() {
        int before = list.size();
        list.clear();
        return before;
    }

    private boolean has(int k) {
        return k >= 0 && k < list.size();
    }

    private List<String> words() {
        List<String> words = new ArrayList<>();
        for (String piece : tape.toString().split(" ")) {
            if (!piece.isEmpty()) {
                words.add(piece);
            }
        }
        tape.setLength(0);
        return words;
    }

    private static boolean isVersion(String word) {
        return VERSION.matcher(word).matches();
    }

    private static boolean isChoice(List<String> tests) {
        return tests.size() >= 1 && tests.size() <= 4 && tests.stream().allMatch(Model::isTest);
    }

    private static boolean isTest(String word) {
        Matcher matcher = TEST.matcher(word);
        return word.equals("*") || matcher.matches() && isVersion(matcher.group(2));
    }

    private static boolean holds(String test, String version) {
        if (test.equals("*")) {
            return true;
        }
        Matcher matcher = TEST.matcher(test);
        matcher.matches();
        String v = matcher.group(2);
        int order = order(version, v);
        switch (matcher.group(1)) {
            case "<": return order < 0;
            case "<=": return order <= 0;
            case ">": return order > 0;
            case ">=": return order >= 0;
            case "^": return order >= 0 && order(version, afterCaret(v)) < 0;
            case "~": return order >= 0 && order(version, number(v, 0) + "." + (number(v, 1) + 1) + ".0") < 0;
            default: return order == 0;
        }
    }

    private static String afterCaret(String v) {
        if (number(v, 0) != 0) {
            return number(v, 0) + 1 + ".0.0";
        }
        return number(v, 1) != 0 ? "0." + (number(v, 1) + 1) + ".0" : "0.0." + (number(v, 2) + 1);
    }

    private static long number(String version, int which) {
        return Long.parseLong(version.split("-", 2)[0].split("\\.")[which]);
    }

    private static String pre(String version) {
        String[] halves = version.split("-", 2);
        return halves.length == 2 ? halves[1] : null;
    }

    private static int order(String one, String other) {
        for (int which = 0; which < 3; which++) {
            int order = Long.compare(number(one, which), number(other, which));
            if (order != 0) {
                return order;
            }
        }
        if (pre(one) == null || pre(other) == null) {
            return Boolean.compare(pre(one) == null, pre(other) == null);
        }
        String[] marks = pre(one).split("\\.");
        String[] others = pre(other).split("\\.");
        for (int m = 0; m < marks.length && m < others.length; m++) {
            int order = orderOfMarks(marks[m], others[m]);
            if (order != 0) {
                return order;
            }
        }
        return Integer.compare(marks.length, others.length);
    }

    private static int orderOfMarks(String one, String other) {
        boolean oneIsNumber = one.matches("[0-9]+");
        boolean otherIsNumber = other.matches("[0-9]+");
        if (oneIsNumber && otherIsNumber) {
            return Long.compare(Long.parseLong(one), Long.parseLong(other));
        }
        if (oneIsNumber != otherIsNumber) {
            return oneIsNumber ? -1 : 1;
        }
        return Integer.signum(one.compareTo(other));
    }
}
