import java.io.IOException;

/**
 * The document's own words as names of tests: from a sentence its test is found, and from a test its sentence.
 * At the end no word of the description and the promises may be left that no test has quoted.
 */
final class Sentences {
    private static final String FIRST_WORDS = "Network. The network";
    private static final String BEHIND_THE_LAST = "## Not promised";

    final Due due = new Due("SentencesTest");
    private final String document;
    private final boolean[] quoted;
    private String head = "";
    private int from = 0;
    private int to = 0;
    private int tests = 0;

    Sentences() throws IOException {
        document = Document.text("SentencesTest");
        quoted = new boolean[document.length()];
    }

    /** The sentences that follow stand in this promise, from its heading to the next one. */
    void inPromise(int number) {
        open("## Promise " + number + ": ", "\n## ");
        quoteLine(from);
        int signature = document.indexOf("\n`", from);
        if (signature >= 0) {
            quoteLine(signature + 1);
        }
        // Such a line is the title of a group of methods.
        int title = document.indexOf("\n---- ", from);
        if (title >= 0 && title < to) {
            quoteLine(title + 1);
        }
    }

    /** The sentences that follow stand in this paragraph of the description. */
    void inParagraph(String name) {
        open(name + ". ", "\n");
        quote(from, name.length());
    }

    private void open(String start, String end) {
        head = start.replace("#", "").trim();
        from = (document.startsWith(start) ? 0 : document.indexOf("\n" + start)) + 1;
        to = document.indexOf(end, from);
        if (!document.isEmpty()) {
            due.isTrue("the document has the head '" + head + "'", from > 0 && to > from);
        }
        to = Math.max(from, to);
    }

    /** What stands there is the matter of another test. */
    void elsewhere(String start) {
        open(start, "\n\n");
        quote(from, to - from);
    }

    void holds(String sentence, Runnable check) {
        tests++;
        lookUp(sentence);
        int asked = due.asked();
        int wrong = due.wrong();
        check.run();
        due.isTrue("the test of '" + sentence + "' asks something", due.asked() > asked);
        if (due.wrong() > wrong) {
            System.out.println("SentencesTest: so this does not hold: " + head + " '" + sentence + "'");
        }
    }

    private void lookUp(String sentence) {
        if (document.isEmpty()) {
            return;
        }
        int at = document.indexOf(sentence, from);
        boolean found = at >= 0 && at + sentence.length() <= to;
        due.isTrue(head + " has the words '" + sentence + "'", found);
        if (found) {
            quote(at, sentence.length());
        }
    }

    private void quoteLine(int start) {
        int end = document.indexOf('\n', start);
        quote(start, (end < 0 ? document.length() : end) - start);
    }

    private void quote(int start, int length) {
        for (int i = Math.max(start, 0); i < start + length && i < quoted.length; i++) {
            quoted[i] = true;
        }
    }

    void end() {
        StringBuilder left = new StringBuilder();
        int last = document.indexOf(BEHIND_THE_LAST);
        for (int i = Math.max(0, document.indexOf(FIRST_WORDS)); i < last; i++) {
            left.append(quoted[i] ? '\n' : document.charAt(i));
        }
        for (String words : left.toString().split("\n")) {
            if (!words.matches("[^a-zA-Z0-9]*")) {
                due.is("tests of the words '" + words.trim() + "'", 0, 1);
            }
        }
        System.out.println("SentencesTest: " + tests + " sentences");
        due.end();
    }
}
