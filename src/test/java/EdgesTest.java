import java.nio.file.Path;

/** The document read again: each of its sentences quoted, with a test of its own for the edges that it names. */
final class EdgesTest {
    public static void main(String[] args) throws Exception {
        Checks checks = new Checks("EdgesTest");
        Sentences sentences = new Sentences(checks, Path.of(args[1]));
        new RealmEdges(sentences).all();
        new WeeksEdges(sentences).all();
        new AheadEdges(sentences).all();
        new LawsEdges(sentences).all();
        new YearEdges(sentences).all();
        sentences.end();
        checks.end();
    }
}
