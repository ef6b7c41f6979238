import java.io.IOException;
import java.io.UncheckedIOException;
import java.nio.charset.StandardCharsets;
import java.nio.file.Files;
import java.nio.file.Path;

/** The document's words, so that a test can show which sentence it is about. */
final class Document {
    private static final Path PLACE = Path.of("../shared/DOC.md");
    private static final boolean IS_THERE = Files.exists(PLACE);
    private static final String WORDS = IS_THERE ? plain(read()) : "";

    static {
        if (!IS_THERE) {
            System.out.println(PLACE + " is not there: the sentences that tests name are not looked up");
        }
    }

    private Document() {
    }

    /** Where the document is not there, the answers can be tested nevertheless, so no sentence fails. */
    static boolean says(String sentence) {
        return !IS_THERE || WORDS.contains(plain(sentence));
    }

    private static String read() {
        try {
            return Files.readString(PLACE, StandardCharsets.UTF_8);
        } catch (IOException e) {
            throw new UncheckedIOException(e);
        }
    }

    private static String plain(String text) {
        return text.replace("`", "").replaceAll("\\s+", " ");
    }
}
