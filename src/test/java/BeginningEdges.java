import java.util.List;

/** Edges of Terms 3 and promises 12 to 16: ask, alone, descend, step, nodes. */
final class BeginningEdges {
    private static final String HERE = "Terms 3";

    private BeginningEdges() {
    }

    static List<Edge> all() {
        return List.of(
            Edge.of(HERE, "a question tells a row of bits, 0 to 64", BeginningEdges::rowsOfAQuestion)
                .brokenBy("n < 0 || n > NAME_BITS", "n <= 0 || n > NAME_BITS")
                .brokenBy("n < 0 || n > NAME_BITS", "n < 0 || n >= NAME_BITS"),
            Edge.of(HERE, "those that LISTEN, ASKED or under it, whose NAMES begin so speak, in one slot", BeginningEdges::whoSpeaks)
                .brokenBy("long speakers = asked();", "long speakers = there & awake & ~ofKind[BIT];")
                .brokenBy("long speakers = asked();", "long speakers = listening();")
                .brokenBy("bit < n && speakers != 0", "bit < n - 1 && speakers != 0"),
            Edge.of(HERE, "a pile of such rows, the empty one at first", BeginningEdges::theEmptyRow)
                .brokenBy("add(0L, 0);", "add(0L, 1);")
                .brokenBy("add(0L, 0);", "addBoth(0L, 0);"),
            Edge.of(HERE, "A STEP of it: the topmost one is asked", BeginningEdges::theTopmostRow)
                .brokenBy("return size > 0 ? rows[size - 1] : 0L;", "return rows[0];")
                .brokenBy("return size > 0 ? lengths[size - 1] : 0;", "return lengths[0];")
                .brokenBy("        now.pile.dropTop();\n", ""),
            Edge.of(HERE, "ALONE: that TAG is found", BeginningEdges::stepFinds)
                .brokenBy("if (heard == ALONE) {\n            now.tally.addFound(now.aloneTag);", "if (heard == ALONE) {\n            now.aloneTag += 0;"),
            Edge.of(HERE, "COLLISION: the row with 1 behind it, then that with 0, come onto the pile", BeginningEdges::twoRowsCome)
                .brokenBy("                add(row | 1L << (NAME_BITS - 1 - length), length + 1);\n                add(row, length + 1);",
                    "                add(row, length + 1);\n                add(row | 1L << (NAME_BITS - 1 - length), length + 1);")
                .brokenBy("} else if (heard == COLLISION) {", "} else {")
                .brokenBy("                add(row, length + 1);\n", "")
                .brokenBy("add(row | 1L << (NAME_BITS - 1 - length), length + 1);", "add(row | 1 << (NAME_BITS - 1 - length), length + 1);"),
            Edge.of(HERE, "(of 64 bits: nothing comes)", BeginningEdges::theLongestRows)
                .unbroken("no two NAMES share 56 bits, so that rows of more than 56 bits never come")
                .brokenBy("MOST_ROWS = NAME_BITS + 1", "MOST_ROWS = NAME_BITS - SUM_BITS"),
            Edge.of(HERE, "It is over when the pile is empty.", BeginningEdges::overWhenEmpty)
                .brokenBy("if (now.pile.size == 0) {", "if (now.pile.size <= 1 && now.tally.allSlots() > 0) {")
                .brokenBy("        now.pile.dropTop();\n", "        if (now.pile.size > 1) {\n            now.pile.dropTop();\n        }\n"),

            Edge.of("Promise 12", "the first n bits of a number (its highest)", BeginningEdges::theFirstBits)
                .brokenBy("return hearSlot(now.tags.beginningWith(bits, n));", "return hearSlot(now.tags.beginningWith(bits << (64 - n), n));")
                .brokenBy("speakers = isOneAt(bits, bit) ? telling : speakers & ~telling;", "speakers = isOneAt(bits, bit) ? telling : speakers;")
                .brokenBy("bit < n && speakers != 0", "bit < n && speakers != 1"),
            Edge.of("Promise 12", "0 QUIET, 1 ALONE, 2 COLLISION", BeginningEdges::askTells)
                .brokenBy("QUIET = 0;", "QUIET = 3;"),
            Edge.of("Promise 12", "NONE: n is not 0 .. 64.", BeginningEdges::askOfAnotherLength)
                .brokenBy("n < 0 || n > NAME_BITS", "n < 0 || n > NAME_BITS + 1")
                .brokenBy("n < 0 || n > NAME_BITS", "n < -1 || n > NAME_BITS")
                .brokenBy("n < 0 || n > NAME_BITS", "n > NAME_BITS"),

            Edge.of("Promise 13", "The TAG that was ALONE in the latest slot of ask(), step() or split()", BeginningEdges::aloneTells)
                .brokenBy("return now.aloneTag;", "return now.tags.has(now.aloneTag) && isIn(now.tags.there, now.aloneTag) ? now.aloneTag : NONE;")
                .brokenBy("now.frames.foundInOne |= audible;", "now.aloneTag = firstOf(audible);"),
            Edge.of("Promise 13", "NONE if none was", BeginningEdges::aloneTellsNone)
                .brokenBy("now.aloneTag = heard == ALONE ? firstOf(audible) : NONE;", "now.aloneTag = heard == ALONE ? firstOf(audible) : now.aloneTag;")
                .brokenBy("now.aloneTag = heard == ALONE ? firstOf(audible) : NONE;", "now.aloneTag = firstOf(audible);")
                .brokenBy("int aloneTag = NONE;", "int aloneTag;"),

            Edge.of("Promise 14", "A DESCENT begins anew.", BeginningEdges::beginsAnew)
                .brokenBy("            size = 0;\n            add(0L, 0);", "            add(0L, 0);")
                .brokenBy("        now.pile.startAnew();", "        if (now.pile.size == 0) {\n            now.pile.startAnew();\n        }"),

            Edge.of("Promise 15", "A STEP of the DESCENT, as ask() tells it", BeginningEdges::stepTells)
                .brokenBy("now.pile.addBoth(row, length);\n        }\n        return heard;", "now.pile.addBoth(row, length);\n        }\n        return now.pile.size;"),
            Edge.of("Promise 15", "NONE: none is under way.", BeginningEdges::noDescent)
                .brokenBy("if (now.pile.size == 0) {\n            return NONE;", "if (now.pile.size == 0) {\n            return QUIET;"),

            Edge.of("Promise 16", "How many questions a DESCENT would ask", BeginningEdges::nodes)
                .brokenBy("int questions = 1;", "int questions = 0;")
                .brokenBy("questions += 2;", "questions += 1;")
                .brokenBy("MOST_CROWDS = MOST_TAGS / 2", "MOST_CROWDS = MOST_TAGS / 2 - 1"),
            Edge.of("Promise 16", "on this WIRE, of those that LISTEN now (WEAK ones as they would be heard)", BeginningEdges::nodesOnThisWire)
                .brokenBy("if (kindOfSlot(audibleOf(speakers)) == COLLISION) {", "if (kindOfSlot(speakers) == COLLISION) {")
                .brokenBy("crowds.admit(speakers);", "crowds.admit(speakers & ~now.tags.ofKind[WEAK]);")
                .brokenBy("admitCrowd(now.tags.asked());", "admitCrowd(now.tags.listening());")
                .brokenBy("admitCrowd(now.tags.asked());", "admitCrowd(now.tags.there & now.tags.awake & ~now.tags.ofKind[BIT]);"));
    }

    private static void rowsOfAQuestion(Due due) {
        RollCall x = Make.tags(1, 0, 1);
        due.is("0 bits: all", x.ask(-1L, 0), 2);
        due.is("64 bits: one", x.ask(305, 64), 1);
        due.is("who", x.alone(), 1);
        due.is("64 bits: nobody", x.ask(304, 64), 0);
        due.is("63 bits", x.ask(304, 63), 1);
        due.is("1 bit", x.ask(0, 1), 2);
        due.is("55 bits that both have", x.ask(0, 55), 2);
        due.is("56 bits", x.ask(0, 56), 1);
    }

    private static void whoSpeaks(Due due) {
        RollCall x = Make.tags(4, 0, 1);
        x.tag(0, 2, 0);
        x.tag(0, 3, 0);
        due.is("both, and no BIT one", x.ask(0, 0), 2);
        x.act(0, 3);
        due.is("one is ASLEEP", x.ask(0, 0), 1);
        x.group(-1L, 0);
        due.is("the other is beyond the GROUP", x.ask(0, 0), 0);
        x.group(0, 0);
        due.is("begins so", x.ask(0x100, 56), 1);
        due.is("begins so but for the last bit", x.ask(0, 56), 0);
        x.act(1, 0);
        due.is("it went", x.ask(0x100, 56), 0);
        due.is("one slot each", x.cost(4), 6);
    }

    private static void theEmptyRow(Due due) {
        RollCall x = Make.tags(1, -1L);
        x.descend();
        due.is("rows on the pile", x.count(3), 1);
        due.is("the empty row: one that begins with 1", x.step(), 1);
        due.is("it", x.alone(), 0);
        due.is("over", x.count(3), 0);
    }

    /** The pile is 1, 01, 001, 000 from below when the three that begin with 0 have collided. */
    private static void theTopmostRow(Due due) {
        RollCall x = Make.tags(1, 1L << 55, 1L << 54, 1L << 53, 0);
        x.descend();
        for (int i = 0; i < 3; i++) {
            due.is("COLLISION " + i, x.step(), 2);
        }
        due.is("rows", x.count(3), 4);
        for (int tag = 3; tag >= 0; tag--) {
            due.is("the topmost row", x.step(), 1);
            due.is("who", x.alone(), tag);
            due.is("rows under it", x.count(3), tag);
        }
    }

    private static void stepFinds(Due due) {
        RollCall x = Make.tags(1, 0, 1L << 55);
        x.descend();
        x.step();
        due.is("COLLISION finds nobody", x.count(2), 0);
        x.step();
        due.is("ALONE", x.found(0), 0);
        x.step();
        due.is("ALONE", x.found(1), 1);
        RollCall quiet = new RollCall();
        quiet.descend();
        quiet.step();
        due.is("QUIET finds nobody", quiet.count(2), 0);
    }

    private static void twoRowsCome(Due due) {
        RollCall x = Make.tags(1, 1L << 55, 3L << 54);
        x.descend();
        due.is("the empty row", x.step(), 2);
        due.is("two rows", x.count(3), 2);
        due.is("the row 0 is on top", x.step(), 0);
        due.is("QUIET: nothing comes", x.count(3), 1);
        due.is("the row 1", x.step(), 2);
        due.is("two rows", x.count(3), 2);
        due.is("the row 10", x.step(), 1);
        due.is("who", x.alone(), 0);
        due.is("ALONE: nothing comes", x.count(3), 1);
        due.is("the row 11", x.step(), 1);
        due.is("who", x.alone(), 1);
    }

    /** Two NAMES that part at bit 55: the longest rows that collide have 55 bits, all others wait. */
    private static void theLongestRows(Due due) {
        long[] numbers = {0, 1, 0xFFFFFFFFFFFFFEL, 0xFFFFFFFFFFFFFFL};
        for (int pair = 0; pair < 2; pair++) {
            RollCall x = Make.tags(1, numbers[2 * pair], numbers[2 * pair + 1]);
            x.descend();
            int steps = 0;
            int most = 0;
            while (steps < 500 && x.step() != -1) {
                steps++;
                most = Math.max(most, x.count(3));
            }
            due.is("steps", steps, 113);
            due.is("the highest pile", most, pair == 0 ? 57 : 2);
            due.is("both are found", x.found(0) * 10 + x.found(1), 1);
            due.is("over", x.count(3), 0);
        }
    }

    private static void overWhenEmpty(Due due) {
        RollCall x = Make.tags(1, 0, 1L << 55);
        x.descend();
        int[] rows = {1, 2, 1, 0};
        int[] tells = {2, 1, 1, -1};
        for (int i = 0; i < 4; i++) {
            due.is("rows ahead of step " + i, x.count(3), rows[i]);
            due.is("step " + i, x.step(), tells[i]);
        }
        due.is("no slot of a step that was none", x.cost(4), 3);
    }

    private static void theFirstBits(Due due) {
        RollCall x = Make.tags(1, 1, 1L << 55);
        due.is("the highest bit is 1", x.ask(Long.MIN_VALUE, 1), 1);
        due.is("who", x.alone(), 1);
        due.is("bits behind the first one count for nothing", x.ask(Long.MAX_VALUE, 1), 1);
        due.is("who", x.alone(), 0);
        due.is("no bit at all", x.ask(-1L, 0), 2);
        due.is("55 bits, ones behind them", x.ask(0x1FF, 55), 1);
        due.is("who", x.alone(), 0);
        for (int bit = 0; bit < 64; bit++) {
            long other = 305 ^ 1L << (63 - bit);
            due.is("ahead of another bit " + bit, x.ask(other, bit), bit == 0 ? 2 : 1);
            due.is("with another bit " + bit, x.ask(other, bit + 1), bit == 0 ? 1 : 0);
        }
    }

    private static void askTells(Due due) {
        RollCall x = new RollCall();
        due.is("QUIET", x.ask(0, 0), 0);
        x.tag(1, 0, 0);
        due.is("ALONE", x.ask(0, 0), 1);
        x.tag(1, 1, 0);
        due.is("COLLISION", x.ask(0, 0), 2);
        for (int i = 2; i < 40; i++) {
            x.tag(1, i, 0);
        }
        due.is("COLLISION of forty", x.ask(0, 0), 2);
    }

    private static void askOfAnotherLength(Due due) {
        RollCall x = Make.tags(1, 0);
        for (int n : Make.intsBeyond(0, 64)) {
            due.is("ask(0, " + n + ")", x.ask(0, n), -1);
            due.is("ask(-1, " + n + ")", x.ask(-1L, n), -1);
        }
        for (int n = 0; n <= 64; n++) {
            due.is("ask(0, " + n + ")", x.ask(0, n), 1);
        }
    }

    private static void aloneTells(Due due) {
        RollCall x = Make.tags(3, 0, 1);
        x.ask(0, 56);
        due.is("of ask()", x.alone(), 0);
        x.act(0, 0);
        due.is("of the slot, not of now", x.alone(), 0);
        x.descend();
        x.step();
        due.is("of step()", x.alone(), 1);
        x.act(0, 1);
        x.act(1, 0);
        x.begin();
        due.is("begin() has no slot", x.alone(), 1);
        x.split();
        due.is("of split()", x.alone(), 0);
        x.act(0, 0);
        x.act(1, 1);
        x.pass();
        x.frame(1);
        x.verify(305);
        due.is("not of passes, frames or verify()", x.alone(), 0);
    }

    private static void aloneTellsNone(Due due) {
        due.is("ahead of any slot", new RollCall().alone(), -1);
        RollCall x = Make.tags(3, 0, 1);
        x.ask(0, 56);
        x.ask(0, 0);
        due.is("COLLISION of ask()", x.alone(), -1);
        x.ask(0, 56);
        x.ask(-1L, 1);
        due.is("QUIET of ask()", x.alone(), -1);
        x.ask(0, 56);
        x.descend();
        x.step();
        due.is("COLLISION of step()", x.alone(), -1);
        x.ask(0, 56);
        x.begin();
        x.split();
        due.is("COLLISION of split()", x.alone(), -1);
        x.ask(0, 56);
        x.group(-1L, -1L);
        x.split();
        due.is("QUIET of split()", x.alone(), -1);
    }

    private static void beginsAnew(Due due) {
        RollCall x = Make.tags(1, 0, 1);
        x.descend();
        x.step();
        x.step();
        due.is("in its midst", x.count(3), 3);
        x.descend();
        due.is("anew", x.count(3), 1);
        due.is("the empty row: both", x.step(), 2);
        due.is("two rows", x.count(3), 2);
        x.act(0, 0);
        x.descend();
        due.is("the empty row: one", x.step(), 1);
        due.is("over", x.step(), -1);
        x.descend();
        due.is("anew behind its end", x.step(), 1);
        due.is("begun twice", twiceBegun(), 1);
    }

    private static int twiceBegun() {
        RollCall x = new RollCall();
        x.descend();
        x.descend();
        return x.count(3);
    }

    private static void stepTells(Due due) {
        RollCall x = Make.tags(1, 1L << 55, 3L << 54);
        x.descend();
        int[] tells = {2, 0, 2, 1, 1};
        for (int i = 0; i < tells.length; i++) {
            due.is("step " + i, x.step(), tells[i]);
        }
        due.is("QUIET", x.cost(0), 1);
        due.is("ALONE", x.cost(1), 2);
        due.is("COLLISION", x.cost(2), 2);
    }

    private static void noDescent(Due due) {
        RollCall x = Make.tags(1, 0);
        due.is("ahead of any", x.step(), -1);
        x.descend();
        x.step();
        due.is("behind its end", x.step(), -1);
        due.is("and again", x.step(), -1);
        due.is("one slot in all", x.cost(4), 1);
        due.is("one was found", x.count(2), 1);
    }

    private static void nodes(Due due) {
        due.is("nobody: the empty row", new RollCall().nodes(), 1);
        due.is("one", Make.tags(1, 5).nodes(), 1);
        due.is("two that part at bit 0", Make.tags(1, 0, 1L << 55).nodes(), 3);
        due.is("two that part at bit 55", Make.tags(1, 0, 1).nodes(), 113);
        RollCall pairs = new RollCall();
        for (int pair = 0; pair < 20; pair++) {
            pairs.tag(1, (long) pair << 50, 0);
            pairs.tag(1, (long) pair << 50 | 1, 0);
        }
        pairs.descend();
        pairs.step();
        int asked = pairs.nodes();
        due.is("a DESCENT under way is as it was", pairs.count(3), 2);
        pairs.descend();
        int steps = 0;
        while (steps < 5000 && pairs.step() != -1) {
            steps++;
        }
        due.is("twenty pairs", asked, steps);
    }

    private static void nodesOnThisWire(Due due) {
        RollCall x = Make.tags(5, 0, 1);
        x.tag(0, 2, 0);
        due.is("weak ones, COPPER, and a BIT one", x.nodes(), 113);
        x.wire(1);
        due.is("weak ones, AIR", x.nodes(), 113);
        Make.addAwake(x, 4, 1L << 55, 0);
        due.is("a strong one that parts at bit 0 covers them", x.nodes(), 1);
        x.wire(0);
        due.is("not on COPPER", x.nodes(), 113);
        Make.addAwake(x, 1, 3L << 54, 0);
        x.wire(1);
        due.is("two strong ones, and weak ones by themselves", x.nodes(), 115);
        x.act(3, 3);
        due.is("one of them is ASLEEP", x.nodes(), 1);
        x.group(1L << 63, 0);
        due.is("both are beyond the GROUP", x.nodes(), 113);
        x.act(0, 0);
        due.is("one weak one", x.nodes(), 1);
        due.is("it takes no slot", x.cost(4), 0);
    }
}
