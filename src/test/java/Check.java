import java.io.IOException;
import java.io.UncheckedIOException;
import java.nio.file.Files;
import java.nio.file.Path;

/**
 * Counts the answers that are due and those that are not, and ends a test's program. Answers can stand
 * under a sentence of the document; a sentence without any is a fault of the test, and so is one that
 * the document does not say to the letter.
 */
final class Check {
    private static final int MOST_TOLD = 40;

    private int passed = 0;
    private int failed = 0;
    private String heading = "";
    private int answersBefore = 0;

    static String document() {
        try {
            return Files.readString(Path.of("../shared/DOC.md"));
        } catch (IOException e) {
            throw new UncheckedIOException(e);
        }
    }

    /** What follows stands under this sentence of the document. */
    void says(String sentence) {
        under(sentence);
        if (!document().contains(sentence)) {
            fail("the document does not say so");
        }
    }

    /** What follows stands under a heading that is not the document's. */
    void under(String heading) {
        endHeading();
        this.heading = heading;
        answersBefore = passed + failed;
    }

    void due(String call, long got, long want) {
        due(call, Long.toString(got), Long.toString(want));
    }

    void due(String call, String got, String want) {
        if (got.equals(want)) {
            passed++;
            return;
        }
        fail(call + " answered " + got + ", due is " + want);
    }

    void holds(String what, boolean holds) {
        due(what, holds ? 1 : 0, 1);
    }

    boolean isClean() {
        return failed == 0;
    }

    void end() {
        endHeading();
        System.out.println(passed + " answers as due, " + failed + " not");
        if (failed > 0 || passed == 0) {
            System.exit(1);
        }
    }

    private void endHeading() {
        if (!heading.isEmpty() && passed + failed == answersBefore) {
            fail("nothing was asked");
        }
        heading = "";
    }

    private void fail(String what) {
        failed++;
        if (failed <= MOST_TOLD) {
            System.out.println((heading.isEmpty() ? "" : "\"" + heading + "\": ") + what);
        }
    }
}
