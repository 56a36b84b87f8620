import java.io.IOException;
import java.nio.charset.StandardCharsets;
import java.nio.file.Files;
import java.nio.file.Path;
import java.util.ArrayList;
import java.util.List;

/** The document's sentences, so that a test can name the one that it is for, and one without a test is seen. */
final class Document {
    private static final Path PLACE = Path.of("../shared/DOC.md");
    private static final String BOUNDARY = ".*(\\d|at most|at least|NONE|UNKNOWN|BAD_VALUE|FULL|NOT_POSSIBLE|[Ee]mpty|"
        + "\\bfull\\b|oldest|latest|longest|already|negative|too early|\\bnone\\b|any more|each once|stays|everything|"
        + "in place of|several|itself).*";

    private final List<String> sentences = new ArrayList<>();
    private final List<Integer> promises = new ArrayList<>();
    private final List<Boolean> quoted = new ArrayList<>();

    Document() {
        if (!Files.isReadable(PLACE)) {
            System.out.println(PLACE + " is not there: what the tests quote is not compared with it");
            return;
        }
        try {
            read(Files.readString(PLACE, StandardCharsets.UTF_8).replaceAll("(?s)```.*?```", ""));
        } catch (IOException e) {
            throw new IllegalStateException(PLACE + " can't be read", e);
        }
    }

    /** The sentences ahead of the promises are kept under the number 0. */
    private void read(String text) {
        int promise = 0;
        for (String line : text.split("\n")) {
            if (line.startsWith("## Not promised")) {
                return;
            }
            if (line.startsWith("## Promise ")) {
                promise = Integer.parseInt(line.replaceAll("## Promise (\\d+).*", "$1"));
            }
            if (!line.startsWith("#") && !line.isBlank()) {
                for (String sentence : line.replaceAll("^\\d+\\. ", "").split("(?<=[.]) (?=[A-Z`])")) {
                    sentences.add(sentence);
                    promises.add(promise);
                    quoted.add(false);
                }
            }
        }
    }

    /** Whether the document says these words under this promise. */
    boolean says(int promise, String words) {
        boolean found = sentences.isEmpty();
        for (int i = 0; i < sentences.size(); i++) {
            if (promises.get(i) == promise && sentences.get(i).contains(words)) {
                quoted.set(i, true);
                found = true;
            }
        }
        return found;
    }

    /** The sentences that name a boundary, from one promise to another, of which no test quoted anything. */
    List<String> withoutTest(int first, int last) {
        List<String> left = new ArrayList<>();
        for (int i = 0; i < sentences.size(); i++) {
            boolean asked = promises.get(i) >= first && promises.get(i) <= last;
            if (asked && !quoted.get(i) && sentences.get(i).matches(BOUNDARY)) {
                left.add(promises.get(i) + ": " + sentences.get(i));
            }
        }
        return left;
    }
}
