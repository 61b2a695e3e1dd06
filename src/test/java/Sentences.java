import java.util.ArrayList;
import java.util.List;

/** The tests of one section of the document, each named after the sentence that it tests. */
final class Sentences {
    static final String TERMS = "Terms";
    static final String FIRST_NAMED =
            "where several exceptions that a call names fit, the one named first is thrown";

    private final String section;
    private final List<String> tested = new ArrayList<>();

    Sentences(String section) {
        this.section = section;
    }

    /** A sentence of this section. */
    void test(String sentence, Runnable test) {
        tested.add(sentence);
        run(sentence, test);
    }

    /** A sentence of the terms, tested on the calls of this section. */
    void term(String sentence, Runnable test) {
        if (Document.isThere()) {
            Check.due("the terms say: " + sentence, true,
                    Document.section(TERMS).contains(sentence));
        }
        run(sentence, test);
    }

    private void run(String sentence, Runnable test) {
        int before = Check.wrong();
        try {
            test.run();
        } catch (RuntimeException | AssertionError thrown) {
            Check.fail("stopped by " + thrown);
        }
        String result = Check.wrong() == before ? "ok      " : "FAILED  ";
        System.out.println(result + section + " - " + sentence);
    }

    /** Each word of the section must stand in a sentence that was tested. */
    void end() {
        if (Document.isThere()) {
            String words = Document.section(section);
            String left = words;
            for (String sentence : tested) {
                Check.due("the document says: " + sentence, true, words.contains(sentence));
                left = left.replace(sentence, "|");
            }
            Check.due("without a test", "", left.replaceAll("[^A-Za-z0-9| ]", "")
                    .replaceAll("[| ]+", " ").trim());
        }
        Check.end(section);
    }
}
