/**
 * Counts the answers that are due and those that are not, and ends a test's program. Answers can stand
 * under a sentence of the document; a sentence without any is a fault of the test.
 */
final class Check {
    private static final int MOST_TOLD = 40;

    private int passed = 0;
    private int failed = 0;
    private String sentence = "";
    private int answersBefore = 0;

    void says(String sentence) {
        endSentence();
        this.sentence = sentence;
        answersBefore = passed + failed;
    }

    void due(String call, long got, long want) {
        due(call, Long.toString(got), Long.toString(want));
    }

    void due(String call, String got, String want) {
        if (got.equals(want)) {
            passed++;
            return;
        }
        fail(call + " answered " + got + ", due is " + want);
    }

    void holds(String what, boolean holds) {
        due(what, holds ? 1 : 0, 1);
    }

    boolean isClean() {
        return failed == 0;
    }

    void end() {
        endSentence();
        System.out.println(passed + " answers as due, " + failed + " not");
        if (failed > 0 || passed == 0) {
            System.exit(1);
        }
    }

    private void endSentence() {
        if (!sentence.isEmpty() && passed + failed == answersBefore) {
            fail("nothing was asked");
        }
        sentence = "";
    }

    private void fail(String what) {
        failed++;
        if (failed <= MOST_TOLD) {
            System.out.println((sentence.isEmpty() ? "" : "\"" + sentence + "\": ") + what);
        }
    }
}
