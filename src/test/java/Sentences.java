import java.util.function.Consumer;

/** Runs tests, each by the sentence of the document that it would fail for (" .. " is a gap in it). */
final class Sentences {
    private int passed = 0;
    private int failed = 0;

    void holds(String words, Consumer<Checks> test) {
        Checks t = new Checks(words);
        test.accept(t);
        if (t.passed()) {
            passed++;
        } else {
            failed++;
        }
    }

    void end() {
        System.out.println(passed + " passed, " + failed + " failed");
        if (failed != 0) {
            System.exit(1);
        }
    }
}
