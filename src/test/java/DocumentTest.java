import java.io.IOException;
import java.nio.file.Path;

/** Promises 1 to 28: the document from its first word to its last, with a test of each piece of it. */
public final class DocumentTest {
    public static void main(String[] args) throws IOException {
        Document document = Document.open(Path.of("../shared/DOC.md"));
        SaysTexts.read(document);
        SaysFace.read(document);
        SaysActs.read(document);
        SaysComes.read(document);
        SaysLater.read(document);
        SaysPromises.read(document);
        document.end();
    }
}
