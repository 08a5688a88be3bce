import java.io.IOException;
import java.nio.file.Files;
import java.nio.file.Path;

/**
 * The sentences of the document that have a test of their own: what a test quotes must stand there, and what no test
 * quotes is told at the end.
 */
final class Sentences {
    private static final Path DOCUMENT = Path.of("../shared/DOC.md");

    private final String document;
    private final boolean[] quoted;

    Sentences() throws IOException {
        document = Files.readString(DOCUMENT).replaceAll("\\s+", " ");
        quoted = new boolean[document.length()];
    }

    /** The tests that follow are about this sentence. */
    void about(int promise, String sentence) {
        Check.promise(promise);
        int at = document.indexOf(sentence);
        Check.due("stands in the document: " + sentence, at >= 0, true);
        while (at >= 0) {
            for (int i = at; i < at + sentence.length(); i++) {
                quoted[i] = true;
            }
            at = document.indexOf(sentence, at + 1);
        }
    }

    /** Headings, signatures and bare signs aside, each word of the terms and of the promises was quoted. */
    void end() {
        int from = document.indexOf("A TEXT: {");
        int to = document.indexOf("## Not promised");
        Check.promise(0);
        Check.due("terms and promises were found", from >= 0 && from < to, true);
        StringBuilder rest = new StringBuilder();
        for (int i = from; i < to; i++) {
            rest.append(quoted[i] ? '|' : document.charAt(i));
        }
        String untold = rest.toString().replaceAll("## Promise \\d+: [\\w ]+? `[^`]*`", "|").replaceAll("```(text)?", "|")
                .replaceAll("==== \\d\\.", "|").replaceAll("[\\s|:;.]+", " ").trim();
        Check.same("sentences without a test", untold, "");
    }
}
