import java.io.IOException;
import java.nio.file.Files;
import java.nio.file.Path;
import java.util.Set;
import java.util.TreeSet;

/**
 * A sentence of the document, and the answers that are due by it. That it stands there word for word
 * is an answer, too, so that no test is held to words that the document has not.
 */
final class Sentence {
    private static final Path DOC = Path.of("../shared/DOC.md");
    private static final Set<Integer> HELD = new TreeSet<>();
    private static String words;

    private final String text;

    private Sentence(String text) {
        this.text = text;
    }

    static Sentence says(String text) {
        Due.due("the document says: " + text, document().contains(text), true);
        return new Sentence(text);
    }

    /** One of a promise, not of another place of the document. */
    static Sentence promises(int promise, String text) {
        String all = document();
        HELD.add(promise);
        int from = all.indexOf("## Promise " + promise + ":");
        int to = all.indexOf("## ", from + 3);
        Due.due("promise " + promise + " says: " + text, from >= 0 && all.substring(from, to).contains(text), true);
        return new Sentence("promise " + promise + ": " + text);
    }

    /** That each of some promises had a sentence. */
    static void allOf(int first, int last) {
        for (int promise = first; promise <= last; promise++) {
            Due.due("promise " + promise + " has a sentence", HELD.contains(promise), true);
        }
    }

    private static String document() {
        if (words == null) {
            try {
                words = Files.readString(DOC).replaceAll("\\s+", " ");
            } catch (IOException e) {
                throw new IllegalStateException("no document at " + DOC, e);
            }
        }
        return words;
    }

    Sentence due(String call, long got, long want) {
        Due.due("[" + text + "] " + call, got, want);
        return this;
    }

    Sentence due(String call, boolean got, boolean want) {
        Due.due("[" + text + "] " + call, got, want);
        return this;
    }

    /** What a text is as a BOOK: its FAULT and the place of that. */
    Sentence fault(String text, int fault, int place) {
        FieldCutter x = new FieldCutter();
        Due.tell(x, text);
        int pages = x.book();
        due("book() of [" + text + "] is refused", pages == FieldCutter.NONE, fault != 0);
        due("fault(0) of [" + text + "]", x.fault(0), fault);
        return due("fault(1) of [" + text + "]", x.fault(1), place);
    }

    Sentence fine(String text) {
        return fault(text, 0, FieldCutter.NONE);
    }
}
