import java.io.IOException;

/** Each sentence of the document that names an edge: at it, one below, one above, and that what is refused changes nothing. */
public final class EdgesTest {
    public static void main(String[] args) throws IOException {
        Sentence.read();
        TermsEdges.test();
        PoolEdges.test();
        LogEdges.test();
        VoteEdges.test();
        TaleEdges.test();
        ActsEdges.test();
        AskedEdges.test();
        Sentence.allAreNamed();
        Due.end();
    }
}
