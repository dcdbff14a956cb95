import java.util.List;
import java.util.function.Consumer;

/** "A refused call changes nothing.": each call that may be refused, on objects that are alike. */
final class RefusedEdges {
    private static final String SENTENCE = "A refused call changes nothing.";

    private RefusedEdges() {
    }

    static List<Edge> all() {
        return List.of(
            Edge.of("wire", SENTENCE, RefusedEdges::wire)
                .brokenBy("kind != AIR) {\n            return false;", "kind != AIR) {\n            now.wireKind = COPPER;\n            return false;"),
            Edge.of("tag", SENTENCE, RefusedEdges::tag)
                .brokenBy("isTaken(name)) {\n                return NONE;", "isTaken(name)) {\n                seeds[0] = seed;\n                return NONE;")
                .brokenBy("isTaken(name)) {\n                return NONE;", "isTaken(name)) {\n                noteOnes(0, name);\n                return NONE;"),
            Edge.of("tag of a 41st", SENTENCE, RefusedEdges::tagOfA41st)
                .brokenBy("if (size >= MOST_TAGS || ", "if (size >= MOST_TAGS) {\n                there |= 1L;\n            }\n            if (size >= MOST_TAGS || ")
                .brokenBy("int tag = size;\n            size++;", "int tag = size;\n            size = Math.min(MOST_TAGS - 1, size + 1);"),
            Edge.of("act", SENTENCE, RefusedEdges::act)
                .brokenBy("if (isIn(there, tag) == wanted) {\n", "if (isIn(there, tag) == wanted) {\n                there = 0;\n")
                .brokenBy("if (isIn(awake, tag) == wanted) {\n", "if (isIn(awake, tag) == wanted) {\n                awake ^= setOf(tag);\n")
                .brokenBy("now.tags.kinds[tag] == SLEEPER && now.tags.setAwake(tag, false);", "now.tags.setAwake(tag, false) && now.tags.kinds[tag] == SLEEPER;")
                .brokenBy("public boolean act(int tag, int what) {\n        if (!now.tags.has(tag)) {\n",
                    "public boolean act(int tag, int what) {\n        if (!now.tags.has(tag)) {\n            now.tags.there |= setOf(tag);\n"),
            Edge.of("ask", SENTENCE, RefusedEdges::ask)
                .brokenBy("n > NAME_BITS) {\n            return NONE;", "n > NAME_BITS) {\n            now.aloneTag = NONE;\n            return NONE;")
                .brokenBy("n > NAME_BITS) {\n            return NONE;", "n > NAME_BITS) {\n            now.tally.quietSlots++;\n            return NONE;"),
            Edge.of("step", SENTENCE, RefusedEdges::step)
                .brokenBy("if (now.pile.size == 0) {\n            return NONE;", "if (now.pile.size == 0) {\n            now.aloneTag = NONE;\n            return NONE;")
                .brokenBy("if (now.pile.size == 0) {\n            return NONE;", "if (now.pile.size == 0) {\n            now.tally.quietSlots++;\n            return NONE;")
                .brokenBy("if (now.pile.size == 0) {\n            return NONE;", "if (now.pile.size == 0) {\n            now.pile.startAnew();\n            return NONE;"),
            Edge.of("split", SENTENCE, RefusedEdges::split)
                .brokenBy("if (!now.counters.isUnderWay()) {\n", "if (!now.counters.isUnderWay()) {\n            now.aloneTag = NONE;\n")
                .brokenBy("if (!now.counters.isUnderWay()) {\n", "if (!now.counters.isUnderWay()) {\n            now.tally.quietSlots++;\n")
                .brokenBy("if (!now.counters.isUnderWay()) {\n", "if (!now.counters.isUnderWay()) {\n            now.counters.holders = 0;\n"),
            Edge.of("frame", SENTENCE, RefusedEdges::frame)
                .brokenBy("length > LONGEST_FRAME) {\n", "length > LONGEST_FRAME) {\n            now.frames.startOne();\n")
                .brokenBy("length > LONGEST_FRAME) {\n", "length > LONGEST_FRAME) {\n            drawSlots(1);\n")
                .brokenBy("length > LONGEST_FRAME) {\n", "length > LONGEST_FRAME) {\n            now.frames.guess = 0;\n"),
            Edge.of("image", SENTENCE, RefusedEdges::image)
                .brokenBy("public boolean image(int k) {\n        if (k < 0 || k >= IMAGES) {\n",
                    "public boolean image(int k) {\n        if (k < 0 || k >= IMAGES) {\n            images[0] = null;\n")
                .brokenBy("public boolean image(int k) {\n        if (k < 0 || k >= IMAGES) {\n            return false;\n        }\n        State image = images[k];",
                    "public boolean image(int k) {\n        State image = images[k & 3];\n        if (image != null) {\n            image.copyFrom(now);\n        }\n"
                    + "        if (k < 0 || k >= IMAGES) {\n            return false;\n        }"),
            Edge.of("again", SENTENCE, RefusedEdges::again)
                .brokenBy("if (image == null) {\n            return false;", "if (image == null) {\n            now.copyFrom(new State());\n            return false;")
                .brokenBy("if (image == null) {\n            return false;", "if (image == null) {\n            images[k] = new State();\n            return false;"),
            Edge.of("what is told", SENTENCE, RefusedEdges::whatIsTold)
                .brokenBy("return now.passes.inRow;\n            default:\n", "return now.passes.inRow;\n            default:\n                now.passes.endRow();\n")
                .brokenBy("return now.frames.guess;\n            default:\n", "return now.frames.guess;\n            default:\n                now.frames.startOne();\n")
                .brokenBy("return now.tally.timesFound(tag);\n            default:\n", "return now.tally.timesFound(tag);\n            default:\n                now.tally.foundSize = 0;\n")
                .brokenBy("return now.tally.allSlots();\n            default:\n", "return now.tally.allSlots();\n            default:\n                now.tally.passSlots = 0;\n")
                .brokenBy("now.counters.callers : NONE;\n            default:\n", "now.counters.callers : NONE;\n            default:\n                now.pile.size = 0;\n"));
    }

    /** All is under way: a row of passes, a DESCENT, a SPLIT, frames; images 0 and 1 are made. */
    private static RollCall busy() {
        RollCall x = new RollCall();
        for (int i = 0; i < 14; i++) {
            Make.addAwake(x, i % 6, 3 * i, i);
        }
        x.act(4, 3);
        x.act(7, 0);
        x.wire(1);
        x.pass();
        x.pass();
        x.image(0);
        x.descend();
        x.step();
        x.step();
        x.begin();
        x.split();
        x.split();
        x.frame(64);
        x.frames();
        x.frame(4);
        x.group(0x200, 0);
        x.image(1);
        x.pass();
        x.ask(x.name(3), 64);
        return x;
    }

    /** As the other one, but the DESCENT and the SPLIT are over; somebody was ALONE in the latest slot. */
    private static RollCall busyWithNothingUnderWay() {
        RollCall x = busy();
        x.group(-1L, x.name(2));
        x.descend();
        x.step();
        for (int i = 0; i < 200 && x.count(4) != -1; i++) {
            x.split();
        }
        x.group(0, 0);
        x.ask(x.name(3), 64);
        return x;
    }

    private static void isAsBefore(Due due, String call, RollCall x, RollCall other, Consumer<RollCall> refused) {
        refused.accept(x);
        due.is("all that is told behind " + call, Told.all(x), Told.all(other));
    }

    private static void wire(Due due) {
        for (int kind : Make.intsBeyond(0, 1)) {
            isAsBefore(due, "wire(" + kind + ")", busy(), busy(), x -> due.is("wire(" + kind + ")", x.wire(kind), false));
        }
    }

    private static void tag(Due due) {
        for (int kind : Make.intsBeyond(0, 5)) {
            isAsBefore(due, "tag(" + kind + ", 77, 5)", busy(), busy(), x -> due.is("no such KIND", x.tag(kind, 77, 5), -1));
        }
        for (int i = 0; i < 14; i++) {
            long number = 3L * i;
            isAsBefore(due, "tag(3, " + number + ", 99)", busy(), busy(), x -> due.is("one has that NAME", x.tag(3, number, 99), -1));
        }
        isAsBefore(due, "tag(9, 0, 5)", busy(), busy(), x -> due.is("both", x.tag(9, 0, 5), -1));
    }

    private static void tagOfA41st(Due due) {
        RollCall[] two = {busy(), busy()};
        for (RollCall x : two) {
            x.act(0, 0);
            for (int i = 14; i < 40; i++) {
                x.tag(i % 6, 3 * i, i);
            }
        }
        isAsBefore(due, "a 41st", two[0], two[1], x -> due.is("there are 40", x.tag(2, 12345, 5), -1));
    }

    private static void act(Due due) {
        int[][] refused = {{0, 1}, {0, 2}, {0, 3}, {3, 3}, {5, 3}, {7, 0}, {4, 3}, {11, 2}, {14, 0}, {14, 1}, {40, 1},
            {64, 0}, {71, 1}, {-57, 1}, {78, 1}, {-1, 0}, {-1, 1}, {-64, 1}, {0, 4}, {0, -1}, {4, 4}, {7, -1}, {7, Integer.MAX_VALUE},
            {Integer.MIN_VALUE, 1}, {Integer.MAX_VALUE, 0}};
        for (int[] call : refused) {
            String text = "act(" + call[0] + ", " + call[1] + ")";
            isAsBefore(due, text, busy(), busy(), x -> due.is(text, x.act(call[0], call[1]), false));
        }
    }

    private static void ask(Due due) {
        due.is("somebody was ALONE", busy().alone(), 3);
        for (int n : Make.intsBeyond(0, 64)) {
            isAsBefore(due, "ask(0, " + n + ")", busy(), busy(), x -> due.is("ask(0, " + n + ")", x.ask(0, n), -1));
        }
    }

    private static void step(Due due) {
        due.is("somebody was ALONE", busyWithNothingUnderWay().alone(), 3);
        isAsBefore(due, "step()", busyWithNothingUnderWay(), busyWithNothingUnderWay(), x -> due.is("step()", x.step(), -1));
        isAsBefore(due, "step() of a new object", new RollCall(), new RollCall(), x -> due.is("step()", x.step(), -1));
    }

    private static void split(Due due) {
        isAsBefore(due, "split()", busyWithNothingUnderWay(), busyWithNothingUnderWay(), x -> due.is("split()", x.split(), -1));
        isAsBefore(due, "split() of a new object", new RollCall(), new RollCall(), x -> due.is("split()", x.split(), -1));
    }

    private static void frame(Due due) {
        for (int length : Make.intsBeyond(1, 64)) {
            String text = "frame(" + length + ")";
            isAsBefore(due, text, busy(), busy(), x -> due.is(text, x.frame(length), -1));
        }
    }

    private static void image(Due due) {
        for (int k : Make.intsBeyond(0, 3)) {
            isAsBefore(due, "image(" + k + ")", busy(), busy(), x -> due.is("image(" + k + ")", x.image(k), false));
        }
    }

    private static void again(Due due) {
        for (int k : Make.intsBeyond(0, 1)) {
            isAsBefore(due, "again(" + k + ")", busy(), busy(), x -> due.is("again(" + k + ")", x.again(k), false));
        }
    }

    /** Calls that tell NONE, or 0, of what there is not. */
    private static void whatIsTold(Due due) {
        for (int i : Make.intsBeyond(0, 199)) {
            isAsBefore(due, "what is told of " + i, busy(), busy(), x -> {
                due.is("fork(" + i + ")", x.fork(i), -1);
                due.is("heard(" + i + ")", x.heard(i), -1);
                due.is("found(" + i + ")", x.found(i), -1);
                due.is("cost(" + i + ")", x.cost(i), -1);
                due.is("count(" + i + ")", x.count(i), -1);
                due.is("name(" + i + ")", x.name(i), 0);
                due.is("tell(" + i + ", 0)", x.tell(i, 0), -1);
                due.is("tell(0, " + i + ")", x.tell(0, i), -1);
            });
        }
    }
}
