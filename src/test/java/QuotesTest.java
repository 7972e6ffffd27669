import java.io.IOException;
import java.nio.file.Files;
import java.nio.file.Path;

/**
 * Holds the tests of sentences against the document: each quote stands there word by word, once; and each word of
 * "Terms" and of the promises stands in a quote, so that no sentence is without a test.
 */
public final class QuotesTest {
    private static final Checks checks = new Checks();
    private static final Path DOCUMENT = Path.of("../shared/DOC.md");

    public static void main(String[] args) throws IOException {
        if (!Files.exists(DOCUMENT)) {
            // The program can be right where only the shared tests lie beside it.
            System.out.println("QuotesTest: NOT LOOKED AT, there is no " + DOCUMENT);
            return;
        }
        Sentences sentences = new Sentences();
        TextSentencesTest.all(sentences);
        NamesSentencesTest.all(sentences);
        TypesSentencesTest.all(sentences);
        RunSentencesTest.all(sentences);
        CallsSentencesTest.all(sentences);
        String document = promised(Files.readString(DOCUMENT));
        boolean[] quoted = new boolean[document.length()];
        for (String quote : sentences.quotes()) {
            int at = document.indexOf(quote);
            checks.due("in the document: " + quote, at >= 0, true);
            checks.due("there once: " + quote, at >= 0 && document.indexOf(quote, at + 1) >= 0, false);
            for (int k = Math.max(at, 0); k < at + quote.length(); k++) {
                quoted[k] = true;
            }
        }
        tellUnquoted(document, quoted);
        checks.finish("QuotesTest");
    }

    /** What the document says from "Terms" on to what it does not promise, without headings, the face of the methods and line ends. */
    private static String promised(String document) {
        int from = document.indexOf("## Terms");
        int to = document.indexOf("## Not promised");
        checks.due("Terms and what is not promised are there", from >= 0 && to > from, true);
        String text = document.substring(Math.max(from, 0), to > from ? to : document.length());
        return text.replaceAll("(?m)^#.*$", " ").replaceAll("(?m)^```.*$", " ").replaceAll("`[^`]*`:", " ").replaceAll("\\s+", " ").trim();
    }

    private static void tellUnquoted(String document, boolean[] quoted) {
        StringBuilder rest = new StringBuilder();
        for (int k = 0; k < document.length(); k++) {
            rest.append(quoted[k] ? '\n' : document.charAt(k));
        }
        for (String part : rest.toString().split("\n+")) {
            if (!part.isBlank()) {
                checks.due("in no quote: " + part.trim(), 1, 0);
            }
        }
    }
}
