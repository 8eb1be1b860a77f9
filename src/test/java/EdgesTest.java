import java.io.IOException;
import java.util.List;

/**
 * Each sentence of the promises and the terms that names an edge, held against the class by a test of its own,
 * which names it. A word of them that no test names is a fault, too.
 */
public final class EdgesTest {
    private EdgesTest() {
    }

    public static void main(String[] args) throws IOException {
        Edges e = new Edges();
        List<Part> parts = List.of(new RainEdges(e), new KindEdges(e), new TextEdges(e), new FaultEdges(e),
            new TourEdges(e), new BestEdges(e), new SkyEdges(e), new ToldEdges(e), new DrawnEdges(e), new ImageEdges(e),
            new HostEdges(e));
        for (Part part : parts) {
            part.all();
        }
        e.end();
    }
}
