import java.io.IOException;

/** For each sentence of the document a test of its own, at the edges that it names; src/test/edges has them. */
public final class EdgeTests {
    public static void main(String[] args) throws IOException {
        EdgesOfTerms.run();
        EdgesOfPartings.run();
        EdgesOfLists.run();
        EdgesOfSteps.run();
        EdgesOfMixed.run();
        EdgesOfTelling.run();
        Edges.finish();
    }
}
