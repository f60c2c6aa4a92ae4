import java.io.IOException;
import java.nio.file.Files;
import java.nio.file.Path;
import java.util.List;

/**
 * Each sentence of the document that names a boundary case, with a test of its own. Argument: the document, in which
 * each of these sentences must stand, and of which no row of a promise may be left without a test.
 */
final class EdgesTest {
    private EdgesTest() {
    }

    public static void main(String[] args) throws IOException {
        Sentences document = new Sentences(Files.readString(Path.of(args[0])));
        Edges.begin(document);
        EdgesOfWords.test();
        EdgesOfExceptions.test();
        EdgesOfEditing.test();
        EdgesOfLoading.test();
        EdgesOfText.test();
        EdgesOfLyndonWords.test();
        EdgesOfRotations.test();
        EdgesOfPeriods.test();
        EdgesOfRuns.test();
        EdgesOfSuffixes.test();
        EdgesOfNecklaces.test();
        Edges.end();
        Check.about("the document");
        Check.same("promises of the document", document.promises(), 45);
        Check.same("sentences without a test", document.left(), List.of());
        Check.finish("EdgesTest");
    }
}
