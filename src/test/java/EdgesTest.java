import java.nio.file.Files;
import java.nio.file.Path;

/** Each sentence of the document has a test that quotes it: its bounds, what is not there, what is refused. */
public final class EdgesTest {
    public static void main(String[] args) throws Exception {
        Edges edges = new Edges(Files.readString(Path.of(args[0]).resolve("../shared/DOC.md")));
        new EdgesOfSitters(edges).run();
        new EdgesOfStill(edges).run();
        new EdgesOfHabits(edges).run();
        new EdgesOfSeen(edges).run();
        new EdgesOfDeed(edges).run();
        new EdgesOfShelves(edges).run();
        new EdgesOfAnswers(edges).run();
        if (!edges.ended()) System.exit(1);
    }
}
