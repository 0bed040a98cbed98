import java.io.IOException;
import java.nio.file.Path;

/** A test for each sentence of the document: the last input that is allowed, and the first that is not. */
public final class EdgeTests {
    public static void main(String[] args) throws IOException {
        Edges edges = new Edges(Path.of(System.getProperty("shared.root", "../shared"), "DOC.md"));
        new TextEdges(edges).run();
        new LawEdges(edges).run();
        new DeedEdges(edges).run();
        new MinuteEdges(edges).run();
        new GameEdges(edges).run();
        new TrayEdges(edges).run();
        new ImageEdges(edges).run();
        new RefusedEdges(edges).run();
        new NowEdges(edges).run();
        edges.end();
    }
}
