import java.io.IOException;
import java.io.UncheckedIOException;
import java.nio.file.Files;
import java.nio.file.Path;
import java.util.Set;
import java.util.TreeSet;

/** Says for which sentence of ../shared/DOC.md a test of a boundary stands, and that the document has that sentence. */
final class Doc {
    static final int TERMS = 0;
    private static final String TEXT = read();
    private static final Set<Integer> NAMED = new TreeSet<>();

    private Doc() {
    }

    /** What is asked from here on is asked because a promise (or TERMS) says this. */
    static void says(int promise, String sentence) {
        NAMED.add(promise);
        Due.about((promise == TERMS ? "terms" : "promise " + promise) + ", '" + sentence + "': ");
        Due.is("the document has it", section(promise).contains(sentence) ? 1 : 0, 1);
    }

    /** Every promise of a test's share was named by one sentence at least. */
    static void named(int first, int last) {
        Due.about("");
        for (int promise = first; promise <= last; promise++) {
            Due.is("promise " + promise + " has a test of a boundary", NAMED.contains(promise) ? 1 : 0, 1);
        }
    }

    private static String section(int promise) {
        String begins = promise == TERMS ? "## Terms" : "## Promise " + promise + ":";
        int from = TEXT.indexOf(begins);
        int to = TEXT.indexOf("\n## ", from + 1);
        return from < 0 || to < 0 ? "" : TEXT.substring(from, to);
    }

    private static String read() {
        try {
            return Files.readString(Path.of("../shared/DOC.md"));
        } catch (IOException unreadable) {
            throw new UncheckedIOException(unreadable);
        }
    }
}
