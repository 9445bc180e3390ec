import java.util.function.Consumer;

/** Sentences of the document, each with a test of its own; .ci/run counts the lines that it prints. */
final class Sentences {
    private final String about;
    private int failed = 0;

    Sentences(String about) {
        this.about = about;
    }

    void test(String sentence, Consumer<Check> test) {
        Check check = new Check();
        try {
            test.accept(check);
        } catch (RuntimeException e) {
            check.fails("thrown: " + e);
        }
        if (check.holds()) {
            System.out.println("ok      " + about + ": " + sentence);
        } else {
            failed++;
            System.out.println("FAILED  " + about + ": " + sentence);
        }
    }

    /** Ends the program, with exit code 1 if a sentence does not hold. */
    void end() {
        System.exit(failed == 0 ? 0 : 1);
    }
}
