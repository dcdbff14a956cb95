import java.util.ArrayList;
import java.util.List;
import java.util.function.Consumer;

/**
 * A sentence of the document that names an edge, the run of calls that looks whether it holds, and
 * changes of the class's text that break it: MutantsTest makes them and wants the run to fail.
 */
final class Edge {
    /** A change of the class's text: a piece that stands in it once, and what comes in its place. */
    static final class Change {
        final String piece;
        final String other;

        Change(String piece, String other) {
            this.piece = piece;
            this.other = other;
        }
    }

    private final String where;
    private final String sentence;
    private final Consumer<Due> run;
    private final List<Change> changes = new ArrayList<>();
    private String whyUnbroken = "";

    private Edge(String where, String sentence, Consumer<Due> run) {
        this.where = where;
        this.sentence = sentence;
        this.run = run;
    }

    static Edge of(String where, String sentence, Consumer<Due> run) {
        return new Edge(where, sentence, run);
    }

    Edge brokenBy(String piece, String other) {
        changes.add(new Change(piece, other));
        return this;
    }

    /** No run of calls gets there, so no change can be seen; the run looks as far as calls can go. */
    Edge unbroken(String why) {
        whyUnbroken = why;
        return this;
    }

    String where() {
        return where;
    }

    String sentence() {
        return sentence;
    }

    String name() {
        return where + ": \"" + sentence + "\"";
    }

    List<Change> changes() {
        return changes;
    }

    boolean hasChanges() {
        return !changes.isEmpty() || !whyUnbroken.isEmpty();
    }

    void look(Due due) {
        int asked = due.asked();
        try {
            run.accept(due);
        } catch (RuntimeException e) {
            due.fail("a call threw " + e);
        }
        if (due.asked() == asked) {
            due.fail("the run looks at nothing");
        }
    }
}
