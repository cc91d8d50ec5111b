import java.util.function.Consumer;

/** Runs a test for each sentence of the document, and sees that none is without one. */
final class Sentences {
    private static final int PROMISES = 15;

    private final Checks checks;
    private final Document document = Document.read();

    Sentences(Checks checks) {
        this.checks = checks;
    }

    void whatItIs(String sentence, Consumer<Checks> test) {
        hold("What it is", sentence, test);
    }

    void terms(String sentence, Consumer<Checks> test) {
        hold("Terms", sentence, test);
    }

    void promise(int number, String sentence, Consumer<Checks> test) {
        hold("Promise " + number, sentence, test);
    }

    /** Every word of these sections is named by a test, but for the signatures. */
    void dueAll() {
        dueAllOf("What it is");
        dueAllOf("Terms");
        for (int number = 1; number <= PROMISES; number++) {
            dueAllOf("Promise " + number);
        }
    }

    private void hold(String section, String sentence, Consumer<Checks> test) {
        checks.about(section + ", \"" + sentence + "\"");
        if (document.isThere()) {
            checks.due("how often the document says so", document.name(section, sentence), 1);
        }
        int before = checks.asked();
        try {
            test.accept(checks);
        } catch (RuntimeException e) {
            checks.fault(e);
        }
        checks.due("whether the test asks something", checks.asked() > before, true);
    }

    private void dueAllOf(String section) {
        checks.about(section);
        checks.due("what no test names", document.unnamed(section).toString(), "[]");
    }
}
