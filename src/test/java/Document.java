import java.io.IOException;
import java.nio.file.Files;
import java.nio.file.Path;
import java.util.Set;
import java.util.TreeSet;
import java.util.function.Consumer;

/**
 * The words of ../shared/DOC.md, read from the first to the last: each piece word for word, with a
 * test of what it says under the promise that it belongs to. No word may be left out.
 */
final class Document {
    private final String words;
    private final Set<Integer> promises = new TreeSet<>();
    private int place;
    private int pieces;
    private int failed;

    private Document(String words) {
        this.words = words;
    }

    static Document open(Path file) throws IOException {
        StringBuilder words = new StringBuilder();
        for (String line : Files.readAllLines(file)) {
            if (!line.startsWith("```")) {
                words.append(line).append(' ');
            }
        }
        return new Document(words.toString().replaceAll("\\s+", " ").strip());
    }

    /** The next piece, and a test that fails if what it says does not hold. */
    void says(int promise, String piece, Consumer<Due> test) {
        read(piece);
        promises.add(promise);
        pieces++;
        Due due = new Due();
        test.accept(due);
        if (!due.isMet()) {
            failed++;
            System.out.println("FAILED: promise " + promise + ": " + piece);
        }
    }

    /** The next piece is a heading, or leaves something free: there is nothing to test. */
    void reads(String piece) {
        read(piece);
    }

    private void read(String piece) {
        if (!words.startsWith(piece, place)) {
            String there = words.substring(place, Math.min(words.length(), place + 100));
            throw new IllegalStateException("here the document says: " + there + "\nand not: " + piece);
        }
        place += piece.length();
        while (place < words.length() && words.charAt(place) == ' ') {
            place++;
        }
    }

    /** Ends the program: with 1 if a test failed, if a word was not read, or a promise not named. */
    void end() {
        if (place < words.length()) {
            failed++;
            System.out.println("FAILED: not read: " + words.substring(place));
        }
        for (int promise = 1; promise <= 28; promise++) {
            if (!promises.contains(promise)) {
                failed++;
                System.out.println("FAILED: there is no test of promise " + promise);
            }
        }
        System.out.println(failed + " of " + pieces + " pieces of the document do not hold");
        System.exit(failed == 0 ? 0 : 1);
    }
}
