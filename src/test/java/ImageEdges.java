import java.util.ArrayList;
import java.util.List;
import java.util.function.Consumer;

/** Edges of promises 25 and 26: image, again. */
final class ImageEdges {
    private static final String IMAGE = "public boolean image(int k) {\n        if (";
    private static final String AGAIN = "public boolean again(int k) {\n        if (";
    private static final String NO_SUCH_K = "k < 0 || k >= IMAGES) {";

    private ImageEdges() {
    }

    static List<Edge> all() {
        List<Edge> all = new ArrayList<>(List.of(
            Edge.of("Promise 25", "Image k (0 .. 3) is all that is told, as it is now: true", ImageEdges::image)
                .brokenBy(IMAGE + NO_SUCH_K, IMAGE + "k <= 0 || k >= IMAGES) {")
                .brokenBy(IMAGE + NO_SUCH_K, IMAGE + "k < 0 || k >= IMAGES - 1) {")
                .brokenBy("            images[k] = image;\n", "            images[0] = image;\n")
                .brokenBy("            images[k] = image;\n        }\n        image.copyFrom(now);",
                    "            images[k] = image;\n            image.copyFrom(now);\n        }")
                .brokenBy("        image.copyFrom(now);\n", "        images[k] = now;\n"),
            Edge.of("Promise 25", "false for another k.", ImageEdges::imageOfAnother)
                .brokenBy(IMAGE + NO_SUCH_K, IMAGE + "k < 0) {")
                .brokenBy(IMAGE + NO_SUCH_K, IMAGE + "k >= IMAGES) {")
                .brokenBy("IMAGES = 4", "IMAGES = 5"),
            Edge.of("Promise 26", "All that is as image k has it: true", ImageEdges::again)
                .brokenBy("        now.copyFrom(image);\n", "        now.copyFrom(image);\n        images[k] = null;\n")
                .brokenBy("        now.copyFrom(image);\n", "        image.copyFrom(now);\n"),
            Edge.of("Promise 26", "false if there is none such", ImageEdges::againOfNone)
                .brokenBy(AGAIN + NO_SUCH_K, AGAIN + "k < 0) {")
                .brokenBy(AGAIN + NO_SUCH_K, AGAIN + "k >= IMAGES) {")
                .brokenBy("if (image == null) {\n            return false;", "if (image == null) {\n            return true;")));
        addPartsOfTags(all);
        addOtherParts(all);
        return all;
    }

    /** One part of what is told by itself; it is broken by a copy that leaves it out. */
    private static Edge part(String part, Consumer<Due> run, String... statements) {
        Edge edge = Edge.of("Promise 26, " + part, "All that is as image k has it", run);
        for (String statement : statements) {
            edge.brokenBy("            " + statement + "\n", "");
        }
        return edge;
    }

    private static void addPartsOfTags(List<Edge> all) {
        all.add(part("KINDS", ImageEdges::kinds, "System.arraycopy(other.kinds, 0, kinds, 0, MOST_TAGS);",
            "System.arraycopy(other.ofKind, 0, ofKind, 0, KINDS);"));
        all.add(part("NAMES", ImageEdges::names, "System.arraycopy(other.names, 0, names, 0, MOST_TAGS);",
            "System.arraycopy(other.ones, 0, ones, 0, NAME_BITS);"));
        all.add(part("SEEDS", ImageEdges::seeds, "System.arraycopy(other.seeds, 0, seeds, 0, MOST_TAGS);"));
        all.add(part("how many TAGS", ImageEdges::size)
            .brokenBy("            size = other.size;\n            there", "            there"));
        all.add(part("who LISTENS", ImageEdges::listeners, "there = other.there;", "awake = other.awake;",
            "grouped = other.grouped;"));
        all.add(part("the GROUP of latecomers", ImageEdges::groupOfLatecomers, "groupMask = other.groupMask;",
            "groupBits = other.groupBits;"));
    }

    private static void addOtherParts(List<Edge> all) {
        all.add(part("the WIRE", ImageEdges::wire, "wireKind = other.wireKind;"));
        all.add(part("alone()", ImageEdges::alone, "aloneTag = other.aloneTag;"));
        all.add(part("the row of passes", ImageEdges::passes, "lastFork = other.lastFork;", "inRow = other.inRow;",
            "latestName = other.latestName;"));
        all.add(part("the pile", ImageEdges::pile, "System.arraycopy(other.rows, 0, rows, 0, MOST_ROWS);",
            "System.arraycopy(other.lengths, 0, lengths, 0, MOST_ROWS);")
            .brokenBy("MOST_ROWS);\n            size = other.size;\n", "MOST_ROWS);\n"));
        all.add(part("counters", ImageEdges::counters, "System.arraycopy(other.values, 0, values, 0, MOST_TAGS);",
            "holders = other.holders;", "callers = other.callers;"));
        all.add(part("who was found in a frame", ImageEdges::foundInAFrame, "foundInOne = other.foundInOne;"));
        all.add(part("the latest frame", ImageEdges::latestFrame, "quiets = other.quiets;", "alones = other.alones;",
            "collisions = other.collisions;", "guess = other.guess;"));
        all.add(part("the row of FOUND", ImageEdges::rowOfFound,
            "System.arraycopy(other.foundTags, 0, foundTags, 0, MOST_FOUND);", "foundSize = other.foundSize;"));
        all.add(part("COST", ImageEdges::cost, "quietSlots = other.quietSlots;", "aloneSlots = other.aloneSlots;",
            "collisionSlots = other.collisionSlots;", "passSlots = other.passSlots;"));
    }

    private static void image(Due due) {
        RollCall x = new RollCall();
        for (int k = 0; k < 4; k++) {
            due.is("image(" + k + ")", x.image(k), true);
            x.tag(1, k, 0);
        }
        for (int k = 3; k >= 0; k--) {
            x.again(k);
            due.is("TAGS of image " + k, x.count(0), k);
        }
        x.again(3);
        due.is("image(0) anew", x.image(0), true);
        x.tag(1, 99, 0);
        x.again(0);
        due.is("TAGS of image 0 then", x.count(0), 3);
        x.again(1);
        due.is("TAGS of image 1 still", x.count(0), 1);
    }

    private static void imageOfAnother(Due due) {
        RollCall x = new RollCall();
        for (int k : Make.intsBeyond(0, 3)) {
            due.is("image(" + k + ")", x.image(k), false);
            due.is("again(" + k + ")", x.again(k), false);
        }
    }

    private static void again(Due due) {
        RollCall x = Make.tags(3, 0, 1);
        x.image(2);
        String before = Told.now(x);
        for (int round = 0; round < 3; round++) {
            x.pass();
            x.frame(9);
            x.begin();
            x.descend();
            due.is("again(2)", x.again(2), true);
            due.is("all that is told", Told.now(x), before);
        }
        due.is("at once once more", x.again(2), true);
        due.is("all that is told", Told.now(x), before);
        due.is("another object has no image", new RollCall().again(2), false);
    }

    private static void againOfNone(Due due) {
        RollCall x = Make.tags(1, 0);
        for (int k : Make.INTS) {
            due.is("again(" + k + ") ahead of any", x.again(k), false);
        }
        x.image(1);
        for (int k : Make.INTS) {
            due.is("again(" + k + ")", x.again(k), k == 1);
        }
    }

    // ---- parts of what is told; each is another one when the image comes back

    private static void kinds(Due due) {
        RollCall x = new RollCall();
        x.image(0);
        x.tag(5, 1, 0);
        x.image(1);
        x.again(0);
        x.tag(1, 1, 0);
        due.is("another KIND", x.tell(0, 0), 1);
        due.is("in no frame", x.frame(1), 0);
        x.again(1);
        due.is("its KIND", x.tell(0, 0), 5);
        due.is("in a frame", x.frame(1), 1);
    }

    private static void names(Due due) {
        RollCall x = new RollCall();
        x.image(0);
        x.tag(1, 1, 0);
        x.image(1);
        x.again(0);
        x.tag(1, 2, 0);
        due.is("another NAME", x.name(0), 610);
        due.is("its bits", x.verify(610), true);
        x.again(1);
        due.is("its NAME", x.name(0), 305);
        due.is("its bits", x.verify(305), true);
        due.is("no other's", x.verify(610), false);
    }

    private static void seeds(Due due) {
        RollCall x = Make.seeds(2, 7);
        x.image(0);
        x.frame(1);
        due.is("it drew", x.tell(0, 5) == 7, false);
        x.again(0);
        due.is("SEED", x.tell(0, 5), 7);
    }

    private static void size(Due due) {
        RollCall x = Make.tags(1, 0);
        x.image(0);
        x.tag(1, 1, 0);
        x.again(0);
        due.is("count(0)", x.count(0), 1);
        due.is("no NAME of the latecomer", x.name(1), 0);
        due.is("its NAME is free, and its number", x.tag(1, 1, 0), 1);
    }

    private static void listeners(Due due) {
        RollCall x = Make.tags(4, 0, 1, 2);
        x.image(0);
        x.act(0, 0);
        x.act(1, 3);
        x.group(-1L, 305);
        due.is("none LISTENS", x.count(1), 0);
        x.again(0);
        due.is("all LISTEN", x.count(1), 3);
        due.is("THERE", x.tell(0, 1), 1);
        due.is("AWAKE", x.tell(1, 2), 1);
    }

    private static void groupOfLatecomers(Due due) {
        RollCall x = new RollCall();
        x.group(0x100, 0x100);
        x.image(0);
        x.group(0, 0);
        x.again(0);
        x.tag(1, 2, 0);
        x.tag(1, 3, 0);
        due.is("beyond the GROUP", x.tell(0, 3), 0);
        due.is("in the GROUP", x.tell(1, 3), 1);
    }

    private static void wire(Due due) {
        RollCall x = Make.tags(5, 0);
        x.tag(1, 1, 0);
        x.image(0);
        x.wire(1);
        x.image(1);
        x.again(0);
        due.is("COPPER", x.ask(0, 0), 2);
        x.again(1);
        due.is("AIR", x.ask(0, 0), 1);
    }

    private static void alone(Due due) {
        RollCall x = Make.tags(1, 0, 1);
        x.ask(305, 64);
        x.image(0);
        x.ask(0, 0);
        due.is("none", x.alone(), -1);
        x.again(0);
        due.is("the one of the image", x.alone(), 1);
    }

    /** Behind the image two passes of another row find 0 and 2, with another LAST FORK. */
    private static void passes(Due due) {
        RollCall x = Make.tags(1, 8, 9);
        x.pass();
        x.image(0);
        x.pass();
        x.tag(1, 0, 0);
        x.tag(1, 2, 0);
        x.pass();
        x.pass();
        due.is("another LAST FORK", x.fork(0), 52);
        due.is("two passes", x.fork(1), 2);
        x.again(0);
        due.is("the LAST FORK", x.fork(0), 55);
        due.is("one pass", x.fork(1), 1);
        x.tag(1, 0, 0);
        due.is("ahead of the LAST FORK the way of the NAME found then", x.pass(), 1);
    }

    private static void pile(Due due) {
        RollCall x = Make.tags(1, 1L << 55, 3L << 54);
        x.descend();
        x.step();
        x.step();
        x.image(0);
        x.descend();
        x.step();
        x.descend();
        x.again(0);
        due.is("one row", x.count(3), 1);
        due.is("the row 1", x.step(), 2);
        due.is("the row 10", x.step(), 1);
        due.is("who", x.alone(), 0);
        due.is("the row 11", x.step(), 1);
        due.is("over", x.step(), -1);
        x.again(0);
        x.step();
        x.again(0);
        due.is("one row again", x.count(3), 1);
    }

    private static void counters(Due due) {
        RollCall x = Make.seeds(3, Make.seedThatDraws(2, 0), Make.seedThatDraws(2, 1));
        x.begin();
        x.split();
        x.image(0);
        x.split();
        due.is("another caller's count", x.count(4), 0);
        x.again(0);
        due.is("counter of 0", x.tell(0, 4), 0);
        due.is("counter of 1", x.tell(1, 4), 1);
        due.is("the caller's count", x.count(4), 1);
        x.again(0);
        x.split();
        x.split();
        due.is("over", x.count(4), -1);
        x.again(0);
        due.is("under way again", x.split(), 1);
    }

    private static void foundInAFrame(Due due) {
        RollCall x = Make.seeds(2, 0);
        x.image(1);
        x.frame(1);
        x.image(0);
        x.frames();
        x.again(0);
        due.is("found in a frame", x.frame(1), 0);
        x.again(1);
        due.is("not yet found in one", x.frame(1), 1);
    }

    private static void latestFrame(Due due) {
        RollCall x = Make.seeds(2, 0, 1, 1, 3, 3, 7, 7);
        x.frame(64);
        x.image(0);
        x.group(-1L, -1L);
        x.frame(2);
        x.again(0);
        int[] heard = {60, 1, 3, 7};
        for (int what = 0; what < 4; what++) {
            due.is("heard(" + what + ")", x.heard(what), heard[what]);
        }
    }

    private static void rowOfFound(Due due) {
        RollCall x = Make.tags(1, 0, 1);
        x.image(0);
        x.pass();
        x.image(1);
        x.again(0);
        due.is("none", x.count(2), 0);
        x.act(0, 0);
        x.pass();
        x.pass();
        due.is("the other", x.found(0), 1);
        x.again(1);
        due.is("the first", x.found(0), 0);
        due.is("one", x.count(2), 1);
        due.is("none behind it", x.found(1), -1);
    }

    private static void cost(Due due) {
        RollCall x = Make.tags(1, 0, 1);
        x.image(0);
        x.ask(0, 0);
        x.ask(0, 56);
        x.ask(-1L, 1);
        x.pass();
        x.image(1);
        int[] slots = {1, 1, 1, 193, 196};
        for (int what = 0; what < 5; what++) {
            x.again(0);
            due.is("cost(" + what + ") of the first", x.cost(what), 0);
            x.again(1);
            due.is("cost(" + what + ") of the second", x.cost(what), slots[what]);
        }
    }
}
