import java.io.IOException;
import java.nio.file.Files;
import java.nio.file.Path;
import java.util.HashSet;
import java.util.Set;

/**
 * Tests of boundary cases: each is of a sentence that must stand, word by word, in its part of the
 * document. Where the document is not at hand, the cases are tested all the same.
 */
final class Edges {
    private static final Path DOCUMENT = Path.of("..", "shared", "DOC.md");
    private final Suite suite;
    private final boolean isAtHand;
    private final String document;
    private final Set<String> parts = new HashSet<>();
    private final Set<String> names = new HashSet<>();
    private String part = "";
    private String wordsOfPart = "";

    Edges(Suite suite) {
        this.suite = suite;
        isAtHand = Files.exists(DOCUMENT);
        document = isAtHand ? read() + "\n## " : "";
        if (!isAtHand) {
            System.out.println("there is no " + DOCUMENT + ": the sentences are not looked up");
        }
    }

    private static String read() {
        try {
            return Files.readString(DOCUMENT);
        } catch (IOException e) {
            throw new IllegalStateException(e);
        }
    }

    /** What comes next is of this promise. */
    void ofPromise(int number) {
        open("promise " + number, "\n## Promise " + number + ":", "\n## ");
    }

    /** What comes next is of this section of the part "Terms". */
    void ofSection(int number) {
        open("section " + number, "\n" + number + ". ", number < 6 ? "\n" + (number + 1) + ". " : "\n## ");
    }

    /** What comes next is of the part with this heading. */
    void ofPart(String heading) {
        open(heading, "\n## " + heading + "\n", "\n## ");
    }

    private void open(String opened, String start, String end) {
        int from = document.indexOf(start);
        part = opened;
        wordsOfPart = from < 0 ? "" : wordsOf(document.substring(from, document.indexOf(end, from + start.length())));
        parts.add(opened);
    }

    private static String wordsOf(String text) {
        return text.replace("`", "").replaceAll("\\s+", " ");
    }

    /** A test of this sentence, or of as much of it as names the case. */
    void test(String sentence, Suite.Test body) {
        String name = part + ", \"" + sentence + "\"";
        boolean isNew = names.add(name);
        boolean isThere = !isAtHand || wordsOfPart.contains(wordsOf(sentence));
        suite.test(name, s -> {
            s.due("the document says so", true, () -> isThere);
            s.due("it has no other test", true, () -> isNew);
            body.run(s);
        });
    }

    /** No part of the document may be left out. */
    void checkParts() {
        suite.test("boundary cases of each part of the document", s -> {
            for (int number = 1; number <= 40; number++) {
                String promise = "promise " + number;
                s.due(promise + " has tests", true, () -> parts.contains(promise));
            }
            for (int number = 1; number <= 6; number++) {
                String section = "section " + number;
                s.due(section + " has tests", true, () -> parts.contains(section));
            }
        });
    }
}
