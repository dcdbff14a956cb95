import java.nio.file.Files;
import java.nio.file.Path;
import java.util.List;

/**
 * A test of the tests: each edge has changes of the class's text that break its sentence, and its own
 * run must fail on each class that is changed so. A change whose piece no longer stands once in
 * RollCall.java is to be written anew, beside its edge.
 */
public final class MutantsTest {
    private static final Due DUE = new Due("MutantsTest");

    private MutantsTest() {
    }

    public static void main(String[] args) throws Exception {
        String source = Files.readString(Path.of("src/main/java/RollCall.java"));
        List<Edge> edges = EdgesTest.edges();
        for (int i = 0; i < edges.size(); i++) {
            DUE.is(edges.get(i).name() + " has changes that break it", edges.get(i).hasChanges(), true);
            for (Edge.Change change : edges.get(i).changes()) {
                look(i, edges.get(i).name(), change, source);
            }
        }
        DUE.end();
    }

    private static void look(int index, String name, Edge.Change change, String source) throws Exception {
        int at = source.indexOf(change.piece);
        if (at < 0 || source.indexOf(change.piece, at + 1) >= 0) {
            DUE.fail(name + ": this piece does not stand once in the class: " + change.piece);
            return;
        }
        Compiled changed = Compiled.of("RollCall", source.replace(change.piece, change.other));
        if (changed.isRefused()) {
            DUE.fail(name + ": not compiled with: " + change.other);
            return;
        }
        Class<?> edges = changed.loadClass("EdgesTest");
        int wrong = (Integer) edges.getMethod("wrongOf", int.class).invoke(null, index);
        DUE.is(name + " fails with: " + change.other, wrong > 0, true);
    }
}
