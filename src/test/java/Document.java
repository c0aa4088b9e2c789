import java.io.IOException;
import java.nio.file.Files;
import java.nio.file.Path;
import java.util.Arrays;

/**
 * A section of the document. Each run of its test is named by the words of the section that the run
 * tries; {@link #end} asks that the runs together leave out no word of it.
 */
final class Document {
    private static final Path FILE = Path.of("../shared/DOC.md");

    private final String heading;
    private final boolean isThere;
    private final String text;
    private final boolean[] tried;

    /** Where the document itself is not at hand the runs are made all the same, without the comparison. */
    Document(String heading) {
        this.heading = heading;
        this.isThere = Files.exists(FILE);
        this.text = isThere ? section(heading) : "";
        this.tried = new boolean[text.length()];
        if (!isThere) {
            System.out.println(FILE + " is not there: the words of the tests are not compared with it");
        }
    }

    /** A new run over what these words of the section say. */
    Run run(String words, int pages, int blocks) {
        int at = text.indexOf(words);
        if (at >= 0) {
            Arrays.fill(tried, at, at + words.length(), true);
        } else if (isThere) {
            Run.check(heading + " has the words: " + words, false);
        }
        return new Run(heading + " '" + words + "'", pages, blocks);
    }

    void end() {
        String left = wordsLeftOut();
        Run.check("no word of " + heading + " is left out, but: " + left, left.isEmpty());
        Run.end();
    }

    private String wordsLeftOut() {
        StringBuilder left = new StringBuilder();
        for (int i = 0; i < tried.length; i++) {
            if (!tried[i]) {
                left.append(text.charAt(i));
            }
        }
        return left.toString().trim();
    }

    /** The section's text with single spaces, without fences and without the signature of a promise. */
    private static String section(String heading) {
        String whole = read();
        int begin = whole.indexOf("\n## " + heading + "\n");
        Run.check("the document has a section " + heading, begin >= 0);
        if (begin < 0) {
            return "";
        }
        int textBegin = whole.indexOf('\n', begin + 1);
        int end = whole.indexOf("\n## ", textBegin);
        return whole.substring(textBegin, end < 0 ? whole.length() : end)
            .replaceAll("```\\w*", " ").replaceAll("\\s+", " ").trim()
            .replaceFirst("^`[^`]*`: ", "");
    }

    private static String read() {
        try {
            return Files.readString(FILE);
        } catch (IOException e) {
            return "";
        }
    }
}
