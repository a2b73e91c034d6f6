import java.io.IOException;
import java.nio.file.Path;

/** Every sentence of promises 1 to 25 and of 'Terms' that names a boundary case, each with a test of its own. */
public final class EdgesTest {
    private EdgesTest() {
    }

    public static void main(String[] args) throws IOException {
        Edges edges = new Edges(Path.of(System.getProperty("document", "../shared/DOC.md")));
        new EdgesOfTape(edges).all();
        new EdgesOfTold(edges).all();
        new EdgesOfSaid(edges).all();
        new EdgesOfAsked(edges).all();
        new EdgesOfFrames(edges).all();
        new EdgesOfStates(edges).all();
        new EdgesOfTaken(edges).all();
        new EdgesOfSlots(edges).all();
        edges.finish();
    }
}
