/**
 * Named tests, one for each sentence of the document that names a boundary
 * case. A test that throws fails alone, and the others still run.
 */
final class Edges {
    private final String section;
    private int failed;

    Edges(String section) {
        this.section = section;
    }

    interface Body {
        void run(Check check);
    }

    void test(String sentence, Body body) {
        Check check = new Check();
        try {
            body.run(check);
        } catch (RuntimeException | StackOverflowError thrown) {
            check.holds("no call throws: " + thrown, false);
        }
        String verdict = check.isClean() ? "  ok: " : "  FAILED: ";
        failed += check.isClean() ? 0 : 1;
        System.out.println(verdict + section + ": " + sentence);
    }

    /** Ends the program, with exit code 1 if a test of these sections failed. */
    static void end(Edges... sections) {
        int failed = 0;
        for (Edges edges : sections) {
            failed += edges.failed;
        }
        if (failed != 0) {
            System.out.println(failed + " tests failed");
            System.exit(1);
        }
    }
}
