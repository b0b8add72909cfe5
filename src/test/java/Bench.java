import java.nio.charset.StandardCharsets;

/** An expander that is fed with texts. */
final class Bench {
    /** Longer than any text that can be; a wrong end of one must fail a test, not hold it up. */
    private static final int MOST = 1000;
    final SnippetExpander x = new SnippetExpander();

    /** A bench whose library is this text. */
    static Bench with(String library) {
        Bench bench = new Bench();
        int count = bench.load(library);
        if (count == SnippetExpander.NONE) {
            throw new IllegalArgumentException("error " + bench.x.errorCode() + " at " + bench.x.errorPosition());
        }
        return bench;
    }

    /** A bench whose library is this text, and in which its first snippet is expanded. */
    static Bench open(String library) {
        Bench bench = with(library);
        bench.x.expand(0);
        return bench;
    }

    static byte[] bytesOf(String text) {
        return text.getBytes(StandardCharsets.ISO_8859_1);
    }

    /** Appends the text, 20 bytes a call; returns the last answer. */
    int put(String text) {
        byte[] bytes = bytesOf(text);
        int answer = x.size(4);
        for (int i = 0; i < bytes.length; i += 20) {
            int[] words = new int[5];
            for (int k = 0; k < 20 && i + k < bytes.length; k++) {
                words[k / 4] |= (bytes[i + k] & 255) << 24 - 8 * (k % 4);
            }
            answer = x.append(words[0], words[1], words[2], words[3], words[4]);
        }
        return answer;
    }

    int load(String text) {
        put(text);
        return x.load();
    }

    int find(String name) {
        put(name);
        return x.find();
    }

    /** Types the text, which has 1 to 20 bytes. */
    int type(String text) {
        put(text);
        return x.type(text.length());
    }

    /** Expands the snippet with this name. */
    int expand(String name) {
        return x.expand(find(name));
    }

    String text() {
        StringBuilder told = new StringBuilder();
        for (int i = 0; i < MOST && x.text(i) != SnippetExpander.NONE; i++) {
            told.append((char) x.text(i));
        }
        return told.toString();
    }

    String value(int field) {
        StringBuilder told = new StringBuilder();
        for (int i = 0; i < MOST && x.value(field, i) != SnippetExpander.NONE; i++) {
            told.append((char) x.value(field, i));
        }
        return told.toString();
    }

    String document() {
        StringBuilder told = new StringBuilder();
        for (int i = 0; i < x.size(2); i++) {
            told.append((char) x.document(i));
        }
        return told.toString();
    }

    String order() {
        StringBuilder told = new StringBuilder();
        for (int i = 0; i < MOST && x.orderAt(i) != SnippetExpander.NONE; i++) {
            told.append(x.orderAt(i));
        }
        return told.toString();
    }

    /** How the text ends as a library: "code@position", or the number of snippets. */
    String loaded(String text) {
        int count = load(text);
        if (count == SnippetExpander.NONE) {
            return x.errorCode() + "@" + x.errorPosition();
        }
        return String.valueOf(count);
    }
}
