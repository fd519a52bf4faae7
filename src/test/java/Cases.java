import java.util.function.Consumer;

/** Boundary cases, each run by itself under the words of the document that it stands for. */
final class Cases {
    private int run = 0;
    private int failed = 0;

    // What one case throws must not hide what the others would tell.
    void add(String words, Consumer<Checks> boundary) {
        Checks checks = new Checks(words + ": ");
        run++;
        try {
            boundary.accept(checks);
        } catch (RuntimeException thrown) {
            checks.due(thrown + " thrown", 1, 0);
        }
        if (!checks.allHold()) {
            failed++;
            System.out.println("CASE FAILED: " + words);
        }
    }

    void finish() {
        System.out.println(failed + " of " + run + " boundary cases fail");
        if (failed != 0 || run == 0) {
            System.exit(1);
        }
    }
}
