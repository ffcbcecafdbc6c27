import java.io.IOException;

/** Each sentence of the document that names an edge has a test of its own here, which quotes it. */
public final class EdgesTest {
    public static void main(String[] args) throws IOException {
        Words words = new Words("EdgesTest");
        new TermsEdges(words).all();
        new ActsEdges(words).all();
        new TextsEdges(words).all();
        new HistoryEdges(words).all();
        new ToldEdges(words).all();
        words.end();
    }
}
