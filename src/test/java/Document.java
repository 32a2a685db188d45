import java.io.IOException;
import java.nio.file.Files;
import java.nio.file.Path;
import java.util.ArrayList;
import java.util.List;

/** The document, cut into its sentences, and which of them the tests have named. */
final class Document {
    /** In place of a promise: the sentences that stand ahead of the first one. */
    static final int TERMS = 0;

    private static final class Sentence {
        final int promise;
        final String text;
        boolean named;

        Sentence(int promise, String text) {
            this.promise = promise;
            this.text = text;
        }
    }

    private final List<Sentence> sentences = new ArrayList<>();

    /** Reads ../shared/DOC.md; the tests run in the project's folder. */
    static Document read() {
        try {
            return new Document(Files.readAllLines(Path.of("../shared/DOC.md")));
        } catch (IOException e) {
            throw new AssertionError("the document is not there: run the tests by .ci/run", e);
        }
    }

    private Document(List<String> lines) {
        int promise = TERMS;
        boolean code = false;
        for (String line : lines) {
            if (line.startsWith("## Not promised")) {
                return;
            }
            if (line.startsWith("## Promise ")) {
                promise = Integer.parseInt(line.substring("## Promise ".length(), line.indexOf(':')));
            }
            code ^= line.startsWith("```");
            boolean says = !code && !line.isEmpty() && !line.startsWith("#") && !line.startsWith("```")
                    && !line.startsWith("Ahead of the calls ");
            if (says) {
                cut(promise, line);
            }
        }
    }

    private void cut(int promise, String line) {
        boolean face = promise != TERMS && line.startsWith("`");
        String text = face ? line.substring(line.indexOf("`: ") + 3) : line;
        for (String sentence : text.replace("`", "").split("(?<=\\.) ")) {
            sentences.add(new Sentence(promise, sentence));
        }
    }

    /** Marks the sentences of the promise in which these words stand; false if there are none. */
    boolean name(int promise, String words) {
        boolean found = false;
        for (Sentence sentence : sentences) {
            if (sentence.promise == promise && sentence.text.contains(words)) {
                sentence.named = true;
                found = true;
            }
        }
        return found;
    }

    /** The sentences that no test has named, each behind its promise. */
    List<String> unnamed() {
        List<String> left = new ArrayList<>();
        for (Sentence sentence : sentences) {
            if (!sentence.named) {
                left.add(where(sentence.promise) + ": " + sentence.text);
            }
        }
        return left;
    }

    int size() {
        return sentences.size();
    }

    static String where(int promise) {
        return promise == TERMS ? "Terms" : "Promise " + promise;
    }
}
