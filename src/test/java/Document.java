import java.io.IOException;
import java.nio.file.Files;
import java.nio.file.Path;

/** The document, gone through piece by piece from some words on, so that no sentence is left out. */
final class Document {
    private static final Path PATH = Path.of("../shared/DOC.md");

    /** What has not been gone through; null when there is no document to look into. */
    private String rest;

    Document(String from) throws IOException {
        if (!Files.exists(PATH)) {
            System.out.println("no " + PATH + ": the sentences are not compared with it");
            return;
        }
        String text = plain(Files.readString(PATH));
        int start = text.indexOf(from);
        rest = start < 0 ? "" : text.substring(start);
    }

    /** Without the marks of code and with single spaces. */
    private static String plain(String text) {
        return text.replaceAll("```[a-z]*", " ").replace("`", "").replaceAll("\\s+", " ");
    }

    /** Whether these words come next; if so, they are gone through. */
    boolean goesOnWith(String words) {
        if (rest == null) {
            return true;
        }
        if (!rest.startsWith(words)) {
            return false;
        }
        rest = rest.substring(words.length()).trim();
        return true;
    }

    /** Whether all has been gone through. */
    boolean isDone() {
        return rest == null || rest.isEmpty();
    }

    String next() {
        return rest.substring(0, Math.min(80, rest.length()));
    }
}
