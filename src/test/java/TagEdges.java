import java.util.List;

/** Edges of promises 1 to 8: a new object, wire, tag, name, isName, tell, act, group. */
final class TagEdges {
    private TagEdges() {
    }

    static List<Edge> all() {
        return List.of(
            Edge.of("The constants", "`NONE = -1`: There is none.", TagEdges::none)
                .brokenBy("int NONE = -1;", "int NONE = -2;"),
            Edge.of("Promise 1", "No TAGS", TagEdges::noTags)
                .brokenBy("        int size;\n        long there;", "        int size = 1;\n        long there = 1L;"),
            Edge.of("Promise 1", "a WIRE of COPPER", TagEdges::newWire)
                .brokenBy("int wireKind = COPPER;", "int wireKind = AIR;"),
            Edge.of("Promise 1", "a GROUP of all", TagEdges::newGroup)
                .brokenBy("        long groupMask;\n", "        long groupMask = 1L << 63;\n"),
            Edge.of("Promise 1", "the next pass is a first one", TagEdges::newPass)
                .brokenBy("int lastFork = NONE;", "int lastFork = 55;")
                .brokenBy("        int inRow;\n", "        int inRow = 1;\n"),
            Edge.of("Promise 1", "no DESCENT and no SPLIT is under way", TagEdges::nothingUnderWay)
                .brokenBy("int callers = NONE;", "int callers;")
                .brokenBy("int[MOST_ROWS];\n        int size;", "int[MOST_ROWS];\n        int size = 1;"),
            Edge.of("Promise 1", "no images", TagEdges::noImages)
                .brokenBy("if (image == null) {\n            return false;", "if (image == null) {\n            return true;"),

            Edge.of("Promise 2", "The WIRE is of a kind, 0 or 1, from now on: true", TagEdges::wire)
                .brokenBy("kind != COPPER && kind != AIR", "kind != AIR")
                .brokenBy("        now.wireKind = kind;\n", ""),
            Edge.of("Promise 2", "false for another one", TagEdges::wireOfAnother)
                .brokenBy("kind != COPPER && kind != AIR", "kind < COPPER")
                .brokenBy("kind != COPPER && kind != AIR", "kind > AIR"),

            Edge.of("Promise 3", "its NAME's first 56 bits are the lowest 56 of a number", TagEdges::lowest56)
                .brokenBy("long whole = (name << SUM_BITS)", "long whole = name & -256L")
                .brokenBy("sumOf(name << SUM_BITS);", "sumOf(name);"),
            Edge.of("Promise 3", "A TAG is made; its NAME's first 56 bits are the lowest 56 of a number: its number",
                    TagEdges::itsNumber)
                .brokenBy("            noteOnes(tag, name);\n            return tag;", "            noteOnes(tag, name);\n            return size;"),
            Edge.of("Promise 3", "NONE: there are 40", TagEdges::thereAreForty)
                .brokenBy("MOST_TAGS = 40", "MOST_TAGS = 41")
                .brokenBy("MOST_TAGS = 40", "MOST_TAGS = 39"),
            Edge.of("Promise 3", "no such KIND", TagEdges::noSuchKind)
                .brokenBy("kind >= KINDS || isTaken", "kind > KINDS || isTaken")
                .brokenBy("kind >= KINDS || isTaken", "kind > SLEEPER || isTaken")
                .brokenBy("kind < 0 || kind >= KINDS || isTaken(name)", "kind < -1 || kind >= KINDS || isTaken(name)"),
            Edge.of("Promise 3", "or one has that NAME", TagEdges::nameIsTaken)
                .brokenBy(" || isTaken(name)) {", ") {")
                .brokenBy("if (names[tag] == name) {", "if (names[tag] == name && isIn(there, tag)) {"),

            Edge.of("Promise 4", "NAME of a TAG", TagEdges::name)
                .brokenBy("long whole = (name << SUM_BITS) | sumOf(name << SUM_BITS);", "long whole = name << SUM_BITS;"),
            Edge.of("Promise 4", "0 if there is none such", TagEdges::nameOfNone)
                .brokenBy("now.tags.names[tag] : 0L;", "now.tags.names[tag] : -1L;")
                .brokenBy("return tag >= 0 && tag < size;", "return tag >= 0 && tag <= size;")
                .brokenBy("return tag >= 0 && tag < size;", "return tag < size;"),

            Edge.of("Promise 5", "Whether a number is a NAME (its last 8 bits the SUM of the others)", TagEdges::isName)
                .brokenBy("return (name & 0xFF) == sumOf(name);", "return (name & 0x7F) == sumOf(name);")
                .brokenBy("return (name & 0xFF) == sumOf(name);", "return (name & 0xFE) == (sumOf(name) & 0xFE);"),

            Edge.of("Promise 6", "Of a TAG, what 0: its KIND", TagEdges::tellKind)
                .brokenBy("            kinds[tag] = kind;\n", ""),
            Edge.of("Promise 6", "1: 1 if it is THERE", TagEdges::tellThere)
                .brokenBy("return oneIf(isIn(now.tags.there, tag));", "return oneIf(isIn(now.tags.listening(), tag));"),
            Edge.of("Promise 6", "2: AWAKE", TagEdges::tellAwake)
                .brokenBy("return oneIf(isIn(now.tags.awake, tag));", "return oneIf(isIn(now.tags.awake & now.tags.there, tag));"),
            Edge.of("Promise 6", "3: it LISTENS", TagEdges::tellListens)
                .brokenBy("return oneIf(isIn(now.tags.listening(), tag));", "return oneIf(isIn(now.tags.there & now.tags.awake, tag));"),
            Edge.of("Promise 6", "4: its counter (NONE)", TagEdges::tellCounter)
                .brokenBy("isIn(holders, tag) ? values[tag] : NONE;", "isIn(holders, tag) ? values[tag] : 0;")
                .brokenBy("return now.counters.of(tag);", "return now.counters.isUnderWay() ? now.counters.of(tag) : NONE;"),
            Edge.of("Promise 6", "5: its SEED", TagEdges::tellSeed)
                .brokenBy("return now.tags.seeds[tag];", "return Math.abs(now.tags.seeds[tag]);"),
            Edge.of("Promise 6", "6: how often it is in the row of FOUND", TagEdges::tellTimes)
                .brokenBy("                    times++;", "                    times = 1;"),
            Edge.of("Promise 6", "NONE if there is none such", TagEdges::tellOfNone)
                .brokenBy("return tag >= 0 && tag < size;", "return tag >= 0 && tag < MOST_TAGS;")
                .brokenBy("return tag >= 0 && tag < size;", "return tag < size;"),
            Edge.of("Promise 6", "or for another what", TagEdges::tellOfAnotherWhat)
                .brokenBy("return now.tally.timesFound(tag);\n            default:\n                return NONE;",
                    "return now.tally.timesFound(tag);\n            default:\n                return 0;"),

            Edge.of("Promise 7", "A TAG goes (0)", TagEdges::goes)
                .brokenBy("return now.tags.setThere(tag, false);", "return now.tags.setThere(tag, true);"),
            Edge.of("Promise 7", "comes back (1)", TagEdges::comesBack)
                .brokenBy("return now.tags.setThere(tag, true);", "return false;"),
            Edge.of("Promise 7", "wakes up (2)", TagEdges::wakesUp)
                .brokenBy("return now.tags.setAwake(tag, true);", "return false;"),
            Edge.of("Promise 7", "falls asleep (3; a SLEEPER alone)", TagEdges::fallsAsleep)
                .brokenBy("now.tags.kinds[tag] == SLEEPER && now.tags.setAwake(tag, false);", "now.tags.setAwake(tag, false);")
                .brokenBy("now.tags.kinds[tag] == SLEEPER && ", "now.tags.kinds[tag] >= SPLIT && "),
            Edge.of("Promise 7", "False: there is none such", TagEdges::actOfNone)
                .brokenBy("return tag >= 0 && tag < size;", "return tag >= 0 && tag < MOST_TAGS;")
                .brokenBy("return tag >= 0 && tag < size;", "return tag >= -1 && tag < size;"),
            Edge.of("Promise 7", "it is so", TagEdges::actIsSo)
                .brokenBy("if (isIn(there, tag) == wanted) {\n                return false;", "if (isIn(there, tag) == wanted) {\n                return true;")
                .brokenBy("if (isIn(awake, tag) == wanted) {\n                return false;", "if (isIn(awake, tag) == wanted) {\n                return true;"),
            Edge.of("Promise 7", "or another what", TagEdges::actOfAnotherWhat)
                .brokenBy("now.tags.setAwake(tag, false);\n            default:\n                return false;",
                    "now.tags.setAwake(tag, false);\n            default:\n                return true;"),
            Edge.of("Promise 7", "(One that went keeps its counter.)", TagEdges::keepsItsCounter)
                .brokenBy("return now.tags.setThere(tag, false);", "now.counters.release(tag);\n                return now.tags.setThere(tag, false);")
                .brokenBy("return now.tags.setThere(tag, true);", "now.counters.release(tag);\n                return now.tags.setThere(tag, true);"),

            Edge.of("Promise 8", "The GROUP from now on", TagEdges::groupFromNowOn)
                .brokenBy("            grouped = 0;\n", "")
                .brokenBy("            if (isOfGroup(name)) {\n", "            if (name != 1) {\n"),
            Edge.of("Promise 8", "(bits beyond the mask count for nothing)", TagEdges::bitsBeyondTheMask)
                .brokenBy("groupBits = bits & mask;", "groupBits = bits;"),
            Edge.of("Promise 8", "how many LISTEN", TagEdges::groupTells)
                .brokenBy("now.tags.regroup(mask, bits);\n        return Long.bitCount(now.tags.listening());",
                    "now.tags.regroup(mask, bits);\n        return Long.bitCount(now.tags.grouped);"));
    }

    private static void none(Due due) {
        due.is("NONE", RollCall.NONE, -1);
        due.is("a pass that finds none", new RollCall().pass(), -1);
    }

    // ---- a new object

    private static void noTags(Due due) {
        RollCall x = new RollCall();
        due.is("count(0)", x.count(0), 0);
        due.is("count(1)", x.count(1), 0);
        due.is("name(0)", x.name(0), 0);
        due.is("tell(0, 0)", x.tell(0, 0), -1);
        due.is("the first TAG", x.tag(1, 1, 0), 0);
    }

    private static void newWire(Due due) {
        RollCall x = new RollCall();
        x.tag(5, 1, 0);
        x.tag(1, 2, 0);
        due.is("a weak voice is not covered", x.ask(0, 0), 2);
    }

    private static void newGroup(Due due) {
        RollCall x = new RollCall();
        for (int bit = 0; bit < 40; bit++) {
            x.tag(1, 1L << (55 - bit), 0);
        }
        due.is("all LISTEN", x.count(1), 40);
    }

    private static void newPass(Due due) {
        RollCall x = new RollCall();
        due.is("fork(0)", x.fork(0), -1);
        due.is("fork(1)", x.fork(1), 0);
        x.tag(1, 0, 0);
        x.tag(1, 1, 0);
        due.is("a first pass: at forks 0", x.pass(), 0);
        due.is("passes of the row", x.fork(1), 1);
    }

    private static void nothingUnderWay(Due due) {
        RollCall x = new RollCall();
        due.is("step()", x.step(), -1);
        due.is("rows on the pile", x.count(3), 0);
        due.is("split()", x.split(), -1);
        due.is("the caller's count", x.count(4), -1);
        due.is("no slot was taken", x.cost(4), 0);
    }

    private static void noImages(Due due) {
        RollCall x = new RollCall();
        for (int k = 0; k < 4; k++) {
            due.is("again(" + k + ")", x.again(k), false);
        }
    }

    // ---- wire

    private static void wire(Due due) {
        RollCall x = Make.tags(5, 0, 1);
        Make.addAwake(x, 2, 2, 0);
        int[] kinds = {0, 1, 1, 0, 0};
        for (int kind : kinds) {
            due.is("wire(" + kind + ")", x.wire(kind), true);
            due.is("then", x.ask(0, 0), kind == 1 ? 1 : 2);
        }
    }

    private static void wireOfAnother(Due due) {
        RollCall x = new RollCall();
        for (int kind : Make.intsBeyond(0, 1)) {
            due.is("wire(" + kind + ")", x.wire(kind), false);
        }
    }

    // ---- tag, name, isName

    private static void lowest56(Due due) {
        RollCall x = new RollCall();
        x.tag(1, 0xFF00000000000001L, 0);
        due.is("the 8 highest count for nothing", x.name(0), 305);
        x.tag(1, 0x0123456789ABCDEFL, 0);
        due.is("56 of 64", x.name(1) >>> 8, 0x23456789ABCDEFL);
        x.tag(1, -1L, 0);
        due.is("56 ones", x.name(2), -216L);
        x.tag(1, Long.MIN_VALUE, 0);
        due.is("none of the 56", x.name(3), 0);
        x.tag(1, 1L << 55, 0);
        due.is("the highest of the 56", x.name(4) >>> 63, 1);
    }

    private static void itsNumber(Due due) {
        RollCall x = new RollCall();
        due.is("the first", x.tag(5, 9, 0), 0);
        due.is("a refused one", x.tag(5, 9, 0), -1);
        due.is("the next has the next number", x.tag(0, 3, 0), 1);
        x.act(0, 0);
        due.is("one that went keeps its number", x.tag(0, 4, 0), 2);
        due.is("NAME by number", x.name(1) >>> 8, 3);
    }

    private static void thereAreForty(Due due) {
        RollCall x = new RollCall();
        for (int i = 0; i < 39; i++) {
            x.tag(i % 6, i, 0);
        }
        due.is("the 40th", x.tag(1, 39, 0), 39);
        due.is("a 41st", x.tag(1, 40, 0), -1);
        x.act(0, 0);
        due.is("one that went is one of the 40", x.tag(1, 41, 0), -1);
        due.is("count(0)", x.count(0), 40);
    }

    private static void noSuchKind(Due due) {
        RollCall x = new RollCall();
        for (int kind : Make.intsBeyond(0, 5)) {
            due.is("tag(" + kind + ", 7, 0)", x.tag(kind, 7, 0), -1);
        }
        for (int kind = 0; kind <= 5; kind++) {
            due.is("tag(" + kind + ", " + kind + ", 0)", x.tag(kind, kind, 0), kind);
        }
    }

    private static void nameIsTaken(Due due) {
        RollCall x = new RollCall();
        x.tag(1, 7, 0);
        x.tag(1, 8, 0);
        due.is("the first one's", x.tag(2, 7, 5), -1);
        due.is("the last one's", x.tag(2, 8, 5), -1);
        due.is("by its lowest 56 bits", x.tag(2, 0x5500000000000007L, 5), -1);
        x.act(0, 0);
        due.is("of one that went", x.tag(2, 7, 5), -1);
        x.group(-1L, 0);
        due.is("of one that LISTENS not", x.tag(2, 8, 5), -1);
        due.is("another", x.tag(2, 9, 5), 2);
    }

    private static void name(Due due) {
        RollCall x = Make.tags(1, 1, 0, 1L << 55, -1L);
        due.is("name(0)", x.name(0), 305);
        due.is("name(1)", x.name(1), 0);
        due.is("name(2), below 0 as a number", x.name(2), -9223372036854775620L);
        due.is("name(3)", x.name(3), -216L);
        x.act(0, 0);
        due.is("of one that went", x.name(0), 305);
    }

    private static void nameOfNone(Due due) {
        RollCall x = Make.tags(1, 1, 2, 3);
        for (int tag : Make.intsBeyond(0, 2)) {
            due.is("name(" + tag + ")", x.name(tag), 0);
        }
        RollCall forty = new RollCall();
        for (int i = 1; i <= 40; i++) {
            forty.tag(1, i, 0);
        }
        due.is("name(39) of forty", forty.name(39) >>> 8, 40);
        for (int tag : Make.intsBeyond(0, 39)) {
            due.is("name(" + tag + ") of forty", forty.name(tag), 0);
        }
    }

    private static void isName(Due due) {
        RollCall x = new RollCall();
        long[] names = {0, 305, 610, 851, 1220, 0x8B9, 0x988, -9223372036854775620L, -216L};
        for (long name : names) {
            for (int last = 0; last < 256; last++) {
                long other = (name & -256L) | last;
                due.is("isName(" + other + ")", x.isName(other), other == name);
            }
        }
        due.is("isName of the lowest number", x.isName(Long.MIN_VALUE), false);
        due.is("isName of the highest number", x.isName(Long.MAX_VALUE), false);
    }

    // ---- tell

    private static void tellKind(Due due) {
        RollCall x = new RollCall();
        for (int kind = 0; kind < 6; kind++) {
            x.tag(kind, kind, 0);
        }
        for (int kind = 0; kind < 6; kind++) {
            due.is("tell(" + kind + ", 0)", x.tell(kind, 0), kind);
        }
    }

    private static void tellThere(Due due) {
        RollCall x = new RollCall();
        x.tag(4, 1, 0);
        due.is("ASLEEP, THERE", x.tell(0, 1), 1);
        x.group(-1L, 0);
        due.is("beyond the GROUP, THERE", x.tell(0, 1), 1);
        x.act(0, 0);
        due.is("went", x.tell(0, 1), 0);
    }

    private static void tellAwake(Due due) {
        RollCall x = Make.tags(4, 1);
        due.is("AWAKE", x.tell(0, 2), 1);
        x.act(0, 0);
        due.is("went AWAKE", x.tell(0, 2), 1);
        x.act(0, 3);
        due.is("ASLEEP", x.tell(0, 2), 0);
    }

    private static void tellListens(Due due) {
        RollCall x = Make.tags(1, 1);
        due.is("LISTENS", x.tell(0, 3), 1);
        x.group(-1L, 0);
        due.is("beyond the GROUP", x.tell(0, 3), 0);
    }

    private static void tellCounter(Due due) {
        RollCall x = Make.seeds(3, 0, 0);
        due.is("none ahead of a SPLIT", x.tell(0, 4), -1);
        x.begin();
        due.is("0", x.tell(0, 4), 0);
        x.act(0, 0);
        x.split();
        due.is("none behind being found", x.tell(1, 4), -1);
        due.is("the SPLIT is over", x.count(4), -1);
        due.is("a counter that is left", x.tell(0, 4), 0);
        x.tag(3, 50, 0);
        due.is("none of a latecomer", x.tell(2, 4), -1);
    }

    private static void tellSeed(Due due) {
        int[] seeds = {0, 1, -1, Integer.MIN_VALUE, Integer.MAX_VALUE, -7};
        RollCall x = Make.seeds(1, seeds);
        for (int i = 0; i < seeds.length; i++) {
            due.is("tell(" + i + ", 5)", x.tell(i, 5), seeds[i]);
        }
    }

    private static void tellTimes(Due due) {
        RollCall x = Make.tags(1, 1, 2);
        due.is("never", x.tell(0, 6), 0);
        x.pass();
        x.pass();
        x.pass();
        due.is("twice", x.tell(0, 6), 2);
        due.is("once", x.tell(1, 6), 1);
    }

    private static void tellOfNone(Due due) {
        RollCall x = Make.tags(3, 1, 2, 3);
        x.begin();
        for (int tag : Make.intsBeyond(0, 2)) {
            for (int what = 0; what <= 6; what++) {
                due.is("tell(" + tag + ", " + what + ")", x.tell(tag, what), -1);
            }
        }
    }

    private static void tellOfAnotherWhat(Due due) {
        RollCall x = Make.tags(3, 1);
        x.begin();
        for (int what : Make.intsBeyond(0, 6)) {
            due.is("tell(0, " + what + ")", x.tell(0, what), -1);
        }
    }

    // ---- act

    private static void goes(Due due) {
        RollCall x = Make.tags(1, 1, 2);
        due.is("act(1, 0)", x.act(1, 0), true);
        due.is("it went", x.tell(1, 1), 0);
        due.is("the other is THERE", x.tell(0, 1), 1);
        due.is("that LISTEN", x.count(1), 1);
    }

    private static void comesBack(Due due) {
        RollCall x = Make.tags(1, 1, 2);
        x.act(0, 0);
        x.act(1, 0);
        due.is("act(1, 1)", x.act(1, 1), true);
        due.is("THERE", x.tell(1, 1), 1);
        due.is("the other is not", x.tell(0, 1), 0);
        due.is("that LISTEN", x.count(1), 1);
    }

    private static void wakesUp(Due due) {
        RollCall x = new RollCall();
        x.tag(4, 1, 0);
        x.tag(4, 2, 0);
        due.is("act(1, 2)", x.act(1, 2), true);
        due.is("AWAKE", x.tell(1, 2), 1);
        due.is("the other is not", x.tell(0, 2), 0);
    }

    private static void fallsAsleep(Due due) {
        for (int kind = 0; kind < 6; kind++) {
            RollCall x = Make.tags(kind, 1);
            due.is("act(0, 3), KIND " + kind, x.act(0, 3), kind == 4);
            due.is("AWAKE, KIND " + kind, x.tell(0, 2), kind == 4 ? 0 : 1);
        }
    }

    private static void actOfNone(Due due) {
        RollCall x = Make.tags(4, 1, 2, 3);
        for (int tag : Make.intsBeyond(0, 2)) {
            for (int what = 0; what <= 3; what++) {
                due.is("act(" + tag + ", " + what + ")", x.act(tag, what), false);
            }
        }
    }

    private static void actIsSo(Due due) {
        RollCall x = Make.tags(4, 1);
        due.is("it is THERE", x.act(0, 1), false);
        due.is("it is AWAKE", x.act(0, 2), false);
        x.act(0, 3);
        due.is("it is ASLEEP", x.act(0, 3), false);
        x.act(0, 0);
        due.is("it went", x.act(0, 0), false);
        due.is("it went and is ASLEEP", x.act(0, 3), false);
        due.is("neither THERE nor AWAKE", x.tell(0, 1) + x.tell(0, 2), 0);
    }

    private static void actOfAnotherWhat(Due due) {
        RollCall x = Make.tags(4, 1);
        for (int what : Make.intsBeyond(0, 3)) {
            due.is("act(0, " + what + ")", x.act(0, what), false);
        }
    }

    private static void keepsItsCounter(Due due) {
        int goesUp = Make.seedThatDraws(2, 1);
        int stays = Make.seedThatDraws(2, 0, 0);
        RollCall x = Make.seeds(3, goesUp, stays, stays);
        x.begin();
        x.split();
        x.act(0, 0);
        due.is("it went", x.tell(0, 4), 1);
        due.is("a step, COLLISION", x.split(), 2);
        due.is("behind the step", x.tell(0, 4), 1);
        x.act(0, 1);
        due.is("it is back", x.tell(0, 4), 1);
        x.split();
        due.is("it goes on with it", x.tell(0, 4), 2);
    }

    // ---- group

    private static void groupFromNowOn(Due due) {
        RollCall x = Make.tags(1, 0, 1);
        due.is("one", x.group(0x100, 0x100), 1);
        due.is("TAG 0 is out", x.tell(0, 3), 0);
        due.is("the other one", x.group(0x100, 0), 1);
        due.is("TAG 1 is out", x.tell(1, 3), 0);
        x.tag(1, 2, 0);
        x.tag(1, 3, 0);
        due.is("a latecomer of the GROUP", x.tell(2, 3), 1);
        due.is("a latecomer beyond it", x.tell(3, 3), 0);
        due.is("all", x.group(0, 0), 4);
    }

    private static void bitsBeyondTheMask(Due due) {
        RollCall x = Make.tags(1, 0, 1);
        due.is("a mask of 0", x.group(0, -1L), 2);
        due.is("a mask of one bit, all others set", x.group(0x100, ~0x100L), 1);
        due.is("who", x.tell(0, 3), 1);
        x.tag(1, 2, 0);
        due.is("a latecomer", x.tell(2, 3), 1);
    }

    private static void groupTells(Due due) {
        due.is("nobody", new RollCall().group(0, 0), 0);
        RollCall x = Make.tags(4, 0, 1, 2);
        due.is("three", x.group(0, 0), 3);
        x.act(0, 3);
        due.is("one is ASLEEP", x.group(0, 0), 2);
        x.act(1, 0);
        due.is("one went", x.group(0, 0), 1);
        due.is("none of these", x.group(-1L, 7), 0);
    }
}
