import java.util.ArrayList;
import java.util.List;

/** Each sentence of the document that names an edge, with a run of its own. */
public final class EdgesTest {
    private EdgesTest() {
    }

    public static void main(String[] args) {
        Due all = new Due("EdgesTest");
        for (Edge edge : edges()) {
            Due due = new Due("EdgesTest, " + edge.name());
            edge.look(due);
            all.add(due);
        }
        all.end();
    }

    static List<Edge> edges() {
        List<Edge> all = new ArrayList<>();
        all.addAll(TermEdges.all());
        all.addAll(TagEdges.all());
        all.addAll(BitEdges.all());
        all.addAll(BeginningEdges.all());
        all.addAll(CounterEdges.all());
        all.addAll(FrameEdges.all());
        all.addAll(ToldEdges.all());
        all.addAll(ImageEdges.all());
        all.addAll(RefusedEdges.all());
        return all;
    }

    /** How many answers of one edge's run are wrong; MutantsTest asks this of a class that was changed. */
    public static int wrongOf(int index) {
        Due due = Due.silent();
        edges().get(index).look(due);
        return due.wrong();
    }
}
