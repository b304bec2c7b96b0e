import java.io.IOException;

/** All promises: every sentence of the document that names a boundary, on both sides of it. */
public final class EdgesTest {
    public static void main(String[] args) throws IOException {
        Edges edges = new Edges();
        EdgesOfText.all(edges);
        EdgesOfDay.all(edges);
        EdgesOfWorth.all(edges);
        EdgesOfBook.all(edges);
        EdgesOfPromises.all(edges);
        EdgesOfMorePromises.all(edges);
        edges.close();
    }
}
