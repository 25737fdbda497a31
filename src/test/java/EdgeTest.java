import java.io.IOException;

/** Each sentence of the document that names a boundary case, with the answers that are due by it: promises 1 to 37. */
final class EdgeTest {
    public static void main(String[] args) throws IOException {
        Edges edges = new Edges();
        EdgesOfCalls.run(edges);
        EdgesOfTexts.run(edges);
        EdgesOfBooks.run(edges);
        EdgesOfChoices.run(edges);
        EdgesOfCords.run(edges);
        edges.finish();
    }
}
