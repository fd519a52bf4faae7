import java.io.IOException;
import java.nio.file.Files;
import java.nio.file.Path;
import java.util.Set;
import java.util.TreeSet;
import java.util.regex.Matcher;
import java.util.regex.Pattern;

/** The calls of README.md's example, in their order, each with the answer that stands behind it. */
public final class ReadmeTest {
    private static final Pattern CALL = Pattern.compile("x\\.(\\w+)\\(([^)]*)\\);\\s*// (-?\\d+|[A-Z]+)\\b.*");

    public static void main(String[] args) throws IOException {
        Checks checks = new Checks();
        VersionRanges x = new VersionRanges();
        Set<String> shown = new TreeSet<>();
        for (String line : Files.readAllLines(Path.of("README.md"))) {
            Matcher call = CALL.matcher(line);
            if (call.matches()) {
                shown.add(call.group(1));
                checks.due(line, answer(x, call.group(1), numbers(call.group(2))), due(call.group(3)));
            } else {
                checks.due("no answer stands behind: " + line, line.startsWith("x.") ? 1 : 0, 0);
            }
        }
        checks.due("the methods that the example shows " + shown, shown.size(), 8);
        checks.finish();
    }

    private static int[] numbers(String list) {
        if (list.isEmpty()) {
            return new int[0];
        }
        String[] parts = list.split(",\\s*");
        int[] numbers = new int[parts.length];
        for (int i = 0; i < parts.length; i++) {
            numbers[i] = Long.decode(parts[i]).intValue();
        }
        return numbers;
    }

    private static int answer(VersionRanges x, String name, int[] n) {
        switch (name) {
            case "feed": return x.feed(n[0], n[1], n[2], n[3], n[4]);
            case "end": return x.end(n[0]);
            case "take": return x.take();
            case "compare": return x.compare(n[0], n[1]);
            case "part": return x.part(n[0], n[1]);
            case "rank": return x.rank(n[0]);
            case "match": return x.match();
            case "clear": return x.clear();
            default: throw new IllegalArgumentException("no call of the face: " + name);
        }
    }

    private static int due(String answer) {
        switch (answer) {
            case "REFUSED": return VersionRanges.REFUSED;
            case "NONE": return VersionRanges.NONE;
            case "FULL": return VersionRanges.FULL;
            case "FAULT": return VersionRanges.FAULT;
            default: return Integer.parseInt(answer);
        }
    }
}
