import java.io.IOException;

/** Each sentence of the promises that names an edge, and those of the terms, with a test of its own. */
public final class EdgeTest {

    private EdgeTest() {
    }

    public static void main(String[] args) throws IOException {
        Edges edges = new Edges();
        new TellingEdges(edges).all();
        new TextEdges(edges).all();
        new FaultEdges(edges).all();
        new HourEdges(edges).all();
        new RunEdges(edges).all();
        new WatchEdges(edges).all();
        edges.close();
    }
}
