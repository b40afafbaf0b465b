import java.io.IOException;
import java.nio.file.Files;
import java.nio.file.Path;

/** The text of the document, which stands beside the checkout. */
final class Document {
    private static final Path PLACE = Path.of("..", "shared", "DOC.md");

    private Document() {
    }

    /** Empty if the document is not there: the tests of the class say something without it, too. */
    static String text(String test) throws IOException {
        if (Files.isReadable(PLACE)) {
            return Files.readString(PLACE);
        }
        System.out.println(test + ": " + PLACE + " is not here, so what is read from its text is left out");
        return "";
    }
}
