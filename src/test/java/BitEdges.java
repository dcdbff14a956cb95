import java.util.List;

/** Edges of Terms 2 and promises 9 to 11: pass, fork, verify. */
final class BitEdges {
    private static final String HERE = "Terms 2";

    private BitEdges() {
    }

    static List<Edge> all() {
        return List.of(
            Edge.of(HERE, "a PASS finds one of those that LISTEN (any KIND), on either WIRE", BitEdges::anyKindOnEitherWire)
                .brokenBy("public int pass() {\n        long in = now.tags.listening();", "public int pass() {\n        long in = now.tags.asked();")
                .brokenBy("public int pass() {\n        long in = now.tags.listening();",
                    "public int pass() {\n        long in = audibleOf(now.tags.listening());")
                .brokenBy("public int pass() {\n        long in = now.tags.listening();", "public int pass() {\n        long in = now.tags.there;"),
            Edge.of(HERE, "in 193 slots (one to begin, three for each bit)", BitEdges::slotsOfAPass)
                .brokenBy("passSlots += 1 + 3 * bitsTold;", "passSlots += 3 * bitsTold;")
                .brokenBy("passSlots += 1 + 3 * bitsTold;", "passSlots += 1 + 2 * bitsTold;"),
            Edge.of(HERE, "Bit by bit the TAGS still in tell their bit", BitEdges::whoIsStillIn)
                .brokenBy("long ones = now.tags.tellingOne(in, bit);\n            long zeros", "long ones = now.tags.tellingOne(now.tags.listening(), bit);\n            long zeros")
                .brokenBy("long zeros = in & ~ones;", "long zeros = now.tags.listening() & ~ones;"),
            Edge.of(HERE, "if all tell one, that is the way", BitEdges::allTellOne)
                .brokenBy("boolean wayIsOne = isFork ? now.passes.wayIsOneAt(bit) : ones != 0;", "boolean wayIsOne = now.passes.wayIsOneAt(bit);")
                .brokenBy("boolean isFork = ones != 0 && zeros != 0;", "boolean isFork = ones != 0;")
                .brokenBy("boolean isFork = ones != 0 && zeros != 0;", "boolean isFork = zeros != 0;"),
            Edge.of(HERE, "if some tell 0 and some 1 there is a fork", BitEdges::someTellZeroSomeOne)
                .brokenBy("boolean isFork = ones != 0 && zeros != 0;", "boolean isFork = Long.bitCount(ones) > 1 && zeros != 0;")
                .brokenBy("boolean isFork = ones != 0 && zeros != 0;", "boolean isFork = ones != 0 && Long.bitCount(zeros) > 1;")
                .brokenBy("boolean isFork = ones != 0 && zeros != 0;", "boolean isFork = ones != 0 && zeros != 0 && bit > 0;"),
            Edge.of(HERE, "ahead of the latest pass's LAST FORK the way is that of the NAME found then", BitEdges::aheadOfTheLastFork)
                .brokenBy("return isOneAt(latestName, bit);", "return true;")
                .brokenBy("return isOneAt(latestName, bit);", "return false;")
                .brokenBy("            latestName = name;\n", ""),
            Edge.of(HERE, "at the LAST FORK 1", BitEdges::atTheLastFork)
                .brokenBy("return bit == lastFork;", "return false;")
                .brokenBy("if (bit < lastFork) {", "if (bit <= lastFork) {"),
            Edge.of(HERE, "else 0", BitEdges::behindTheLastFork)
                .brokenBy("return bit == lastFork;", "return lastFork != NONE;"),
            Edge.of(HERE, "Who has another bit is out.", BitEdges::whoIsOut)
                .brokenBy("in = wayIsOne ? ones : zeros;", "in = wayIsOne ? ones : in;")
                .brokenBy("in = wayIsOne ? ones : zeros;", "in = wayIsOne ? in : zeros;"),
            Edge.of(HERE, "If nobody is in (at the beginning, or any more) the pass ends there, in 1 slot and 3 for each bit at which somebody was in",
                    BitEdges::nobodyIsIn)
                .brokenBy("passSlots += 1 + 3 * bitsTold;", "passSlots += 193;")
                .brokenBy("public int pass() {\n        long in = now.tags.listening();\n        int bitsTold = 0;",
                    "public int pass() {\n        long in = now.tags.listening();\n        int bitsTold = in == 0 ? 1 : 0;")
                .brokenBy("in = isOneAt(name, bit) ? ones : in & ~ones;\n        }\n        now.tally.addPassSlots(bitsTold);",
                    "in = isOneAt(name, bit) ? ones : in & ~ones;\n        }\n        now.tally.addPassSlots(in == 0 ? bitsTold - 1 : bitsTold);"),
            Edge.of(HERE, "none is found, and the next pass is a first one", BitEdges::aFirstOneBehindNone)
                .brokenBy("            now.passes.endRow();\n            return NONE;", "            return NONE;")
                .brokenBy("            now.passes.endRow();\n            return NONE;",
                    "            now.tally.addFound(NONE);\n            now.passes.endRow();\n            return NONE;"),
            Edge.of(HERE, "Behind it the LAST FORK is the last bit with a fork at which the way was 0", BitEdges::theLastFork)
                .brokenBy("if (isFork && !wayIsOne) {", "if (isFork) {")
                .brokenBy("if (isFork && !wayIsOne) {", "if (!wayIsOne) {")
                .brokenBy("if (isFork && !wayIsOne) {", "if (isFork && !wayIsOne && lastZeroFork == NONE) {"),
            Edge.of(HERE, "without one the row of passes is over, and the next pass is a first one", BitEdges::theRowIsOver)
                .brokenBy("                endRow();\n                return;", "                return;"),
            Edge.of(HERE, "A first pass has no LAST FORK: at forks 0.", BitEdges::aFirstPass)
                .brokenBy("if (bit < lastFork) {", "if (bit < lastFork || lastFork == NONE) {"),

            Edge.of("Promise 9", "the TAG that was found", BitEdges::passTells)
                .brokenBy("        now.tally.addFound(tag);\n        return tag;", "        now.tally.addFound(tag);\n        return now.tally.foundSize - 1;")
                .brokenBy("        now.tally.addFound(tag);\n        return tag;", "        return tag;"),
            Edge.of("Promise 9", "NONE if none was", BitEdges::passTellsNone)
                .brokenBy("            now.passes.endRow();\n            return NONE;", "            now.passes.endRow();\n            return 0;"),

            Edge.of("Promise 10", "What 0: the bit of the LAST FORK (NONE: the next pass is a first one)", BitEdges::forkTellsTheBit)
                .brokenBy("if (fork == NONE) {", "if (fork <= 0) {")
                .brokenBy("            lastFork = NONE;\n            inRow = 0;", "            inRow = 0;"),
            Edge.of("Promise 10", "1: passes of this row so far (0 if the next one is a first one)", BitEdges::forkTellsPasses)
                .brokenBy("            inRow++;\n", "            inRow = 1;\n")
                .brokenBy("            lastFork = NONE;\n            inRow = 0;", "            lastFork = NONE;"),
            Edge.of("Promise 10", "NONE for another what.", BitEdges::forkOfAnotherWhat)
                .brokenBy("return now.passes.inRow;\n            default:\n                return NONE;",
                    "return now.passes.inRow;\n            default:\n                return 0;"),

            Edge.of("Promise 11", "A TAG with this NAME is called by bits, its own at each one", BitEdges::verifyCalls)
                .brokenBy("in = isOneAt(name, bit) ? ones : in & ~ones;", "in = ones != 0 ? ones : in;")
                .brokenBy("public boolean verify(long name) {\n        long in = now.tags.listening();",
                    "public boolean verify(long name) {\n        long in = now.tags.asked();")
                .brokenBy("public boolean verify(long name) {\n        long in = now.tags.listening();",
                    "public boolean verify(long name) {\n        long in = now.tags.there & now.tags.awake;"),
            Edge.of("Promise 11", "193 slots, or as many as a pass takes that ends", BitEdges::verifyCosts)
                .brokenBy("in = isOneAt(name, bit) ? ones : in & ~ones;\n        }\n        now.tally.addPassSlots(bitsTold);",
                    "in = isOneAt(name, bit) ? ones : in & ~ones;\n        }\n        now.tally.addPassSlots(NAME_BITS);"),
            Edge.of("Promise 11", "whether it answered to the end", BitEdges::verifyTells)
                .brokenBy("        return in != 0;\n", "        return bitsTold == NAME_BITS;\n"),
            Edge.of("Promise 11", "(The row of passes is as it was.)", BitEdges::verifyLeavesTheRow)
                .brokenBy("        return in != 0;\n", "        now.passes.endRow();\n        return in != 0;\n")
                .brokenBy("        return in != 0;\n", "        now.passes.latestName = name;\n        return in != 0;\n"));
    }

    private static void anyKindOnEitherWire(Due due) {
        for (int wire = 0; wire < 2; wire++) {
            RollCall x = new RollCall();
            x.wire(wire);
            for (int kind = 0; kind < 6; kind++) {
                Make.addAwake(x, kind, kind, 0);
            }
            for (int kind = 0; kind < 6; kind++) {
                due.is("KIND " + kind + " on wire " + wire, x.pass(), kind);
            }
        }
        RollCall weak = Make.tags(5, 0);
        weak.tag(1, 1, 0);
        weak.wire(1);
        due.is("a weak one beside a strong one in AIR", weak.pass(), 0);
        weak.group(-1L, 305);
        due.is("who LISTENS alone", weak.pass(), 1);
        RollCall sleeper = new RollCall();
        sleeper.tag(4, 0, 0);
        due.is("one that is ASLEEP", sleeper.pass(), -1);
    }

    private static void slotsOfAPass(Due due) {
        long[] numbers = {0, 1, -1L, 1L << 55};
        for (long number : numbers) {
            RollCall x = Make.tags(1, number);
            x.pass();
            due.is("slots of a pass", x.cost(3), 193);
        }
        RollCall x = Make.tags(0, numbers);
        for (int i = 1; i <= 6; i++) {
            x.pass();
            due.is("slots of " + i + " passes", x.cost(3), 193L * i);
        }
    }

    /** 0 and 3 part at bit 54; at bit 55 the one that is out would tell another bit than the one still in. */
    private static void whoIsStillIn(Due due) {
        RollCall x = Make.tags(1, 0, 3);
        due.is("way 0 at bit 54", x.pass(), 0);
        due.is("no fork at bit 55", x.fork(0), 54);
        due.is("way 1 at bit 54", x.pass(), 1);
        due.is("none at bit 55", x.fork(0), -1);
    }

    private static void someTellZeroSomeOne(Due due) {
        for (int bit = 0; bit < 56; bit++) {
            RollCall x = Make.tags(1, 0, 1L << (55 - bit));
            due.is("one tells 0, one 1, at bit " + bit, x.pass(), 0);
            due.is("the fork", x.fork(0), bit);
            due.is("then 1", x.pass(), 1);
        }
        RollCall ones = Make.tags(1, 4, 5, 0);
        due.is("one tells 0, two 1", ones.pass(), 2);
        due.is("the fork", ones.fork(0), 53);
        RollCall zeros = Make.tags(1, 0, 1, 4);
        zeros.pass();
        due.is("two tell 0, one 1: the nearer fork first", zeros.fork(0), 55);
        due.is("then 1 at it", zeros.pass(), 1);
        due.is("the fork of all three", zeros.fork(0), 53);
    }

    private static void allTellOne(Due due) {
        RollCall ones = Make.tags(1, -1L);
        due.is("all tell 1, in a first pass", ones.pass(), 0);
        RollCall x = Make.tags(1, 0, 1, 2);
        due.is("first", x.pass(), 0);
        due.is("the LAST FORK", x.fork(0), 55);
        x.act(1, 0);
        due.is("all tell 0 at the LAST FORK", x.pass(), 0);
        due.is("that was no fork", x.fork(0), 54);
        RollCall y = Make.tags(1, 8, 9);
        y.pass();
        y.act(0, 0);
        y.act(1, 0);
        Make.addAwake(y, 1, 0, 0);
        due.is("all tell 0 where the NAME found then has 1", y.pass(), 2);
    }

    /** 8 and 9 part at bit 55, and from 0 at bit 52, where both have 1. */
    private static void aheadOfTheLastFork(Due due) {
        RollCall one = Make.tags(1, 8, 9);
        one.pass();
        one.tag(1, 0, 0);
        due.is("the NAME found then has 1", one.pass(), 1);
        RollCall zero = Make.tags(1, 0, 1);
        zero.pass();
        zero.tag(1, 8, 0);
        due.is("the NAME found then has 0", zero.pass(), 1);
        due.is("and that is the LAST FORK then", zero.fork(0), 52);
        RollCall row = Make.tags(1, 0, 1, 8, 9);
        for (int i = 0; i < 3; i++) {
            row.pass();
        }
        due.is("the latest NAME, not the first one of the row", row.pass(), 3);
    }

    private static void atTheLastFork(Due due) {
        RollCall x = Make.tags(1, 0, 1);
        due.is("0 at the fork", x.pass(), 0);
        due.is("1 at it then", x.pass(), 1);
        RollCall y = Make.tags(1, 0, 1L << 55);
        y.pass();
        due.is("1 at bit 0", y.pass(), 1);
    }

    private static void behindTheLastFork(Due due) {
        RollCall x = Make.tags(1, 0, 2, 3);
        due.is("first", x.pass(), 0);
        due.is("the LAST FORK", x.fork(0), 54);
        due.is("behind it 0", x.pass(), 1);
        due.is("and there is the LAST FORK", x.fork(0), 55);
    }

    private static void whoIsOut(Due due) {
        RollCall x = Make.tags(1, 1, 2);
        due.is("0 at bit 54", x.pass(), 0);
        due.is("no fork at bit 55: the other is out", x.fork(0), 54);
        due.is("1 at bit 54", x.pass(), 1);
        due.is("none behind it: the other is out", x.fork(0), -1);
    }

    private static void nobodyIsIn(Due due) {
        RollCall x = new RollCall();
        x.pass();
        due.is("at the beginning: 1 slot", x.cost(3), 1);
        x.tag(4, 1, 0);
        x.pass();
        due.is("one that is ASLEEP: 1 slot more", x.cost(3), 2);
        for (int bit = 0; bit < 64; bit++) {
            RollCall y = Make.tags(1, 1);
            due.is("another bit " + bit, y.verify(305 ^ 1L << (63 - bit)), false);
            due.is("not any more behind bit " + bit, y.cost(3), 1 + 3 * (bit + 1));
        }
    }

    private static void aFirstOneBehindNone(Due due) {
        RollCall x = Make.tags(1, 0, 1);
        x.pass();
        due.is("a row is under way", x.fork(0), 55);
        x.group(-1L, -1L);
        due.is("none", x.pass(), -1);
        due.is("nothing more is found", x.count(2), 1);
        due.is("fork(0)", x.fork(0), -1);
        due.is("fork(1)", x.fork(1), 0);
        x.group(0, 0);
        due.is("a first pass", x.pass(), 0);
        due.is("the first of its row", x.fork(1), 1);
    }

    private static void theLastFork(Due due) {
        RollCall x = Make.tags(1, 0, 1, 2, 3);
        int[] forks = {55, 54, 55, -1};
        for (int i = 0; i < 4; i++) {
            due.is("pass", x.pass(), i);
            due.is("the LAST FORK behind it", x.fork(0), forks[i]);
        }
        RollCall zeros = Make.tags(1, 0, 1L << 55);
        zeros.pass();
        due.is("0 without a fork counts for nothing", zeros.fork(0), 0);
    }

    private static void theRowIsOver(Due due) {
        RollCall x = Make.tags(1, 0, 1);
        x.pass();
        due.is("the last of the row", x.pass(), 1);
        due.is("fork(0)", x.fork(0), -1);
        due.is("fork(1)", x.fork(1), 0);
        due.is("a first pass", x.pass(), 0);
        due.is("passes of the new row", x.fork(1), 1);
        RollCall one = Make.tags(1, 7);
        one.pass();
        due.is("a row of one pass", one.fork(0), -1);
    }

    /** Behind a row that ended with the highest NAME, so that its bits could lead astray. */
    private static void aFirstPass(Due due) {
        RollCall x = Make.tags(1, 0, 5, -1L);
        for (int round = 0; round < 3; round++) {
            for (int i = 0; i < 3; i++) {
                due.is("pass " + i + " of round " + round, x.pass(), i);
            }
        }
    }

    private static void passTells(Due due) {
        RollCall x = Make.tags(1, 9, 4, 6);
        int[] tags = {1, 2, 0, 1};
        for (int i = 0; i < 4; i++) {
            due.is("pass", x.pass(), tags[i]);
            due.is("in the row of FOUND", x.found(i), tags[i]);
        }
    }

    private static void passTellsNone(Due due) {
        RollCall x = new RollCall();
        due.is("no TAGS", x.pass(), -1);
        x.tag(1, 0, 0);
        x.act(0, 0);
        due.is("all went", x.pass(), -1);
        due.is("nothing is found", x.count(2), 0);
    }

    private static void forkTellsTheBit(Due due) {
        RollCall x = Make.tags(1, 0, 1L << 55);
        due.is("ahead of any", x.fork(0), -1);
        x.pass();
        due.is("bit 0 is a bit", x.fork(0), 0);
        due.is("at it 1", x.pass(), 1);
        due.is("over", x.fork(0), -1);
        RollCall last = Make.tags(1, 0, 1);
        last.pass();
        due.is("the last bit at which NAMES can part", last.fork(0), 55);
    }

    private static void forkTellsPasses(Due due) {
        RollCall x = Make.tags(1, 0, 1, 2, 3);
        int[] passes = {0, 1, 2, 3, 0, 1, 2, 3, 0};
        for (int i = 0; i < passes.length; i++) {
            due.is("behind " + i + " passes", x.fork(1), passes[i]);
            x.pass();
        }
    }

    private static void forkOfAnotherWhat(Due due) {
        RollCall x = Make.tags(1, 0, 1);
        x.pass();
        for (int what : Make.intsBeyond(0, 1)) {
            due.is("fork(" + what + ")", x.fork(what), -1);
        }
    }

    private static void verifyCalls(Due due) {
        RollCall x = Make.tags(0, 0, 1, 2, 3, -1L);
        for (int tag = 0; tag < 5; tag++) {
            due.is("TAG " + tag, x.verify(x.name(tag)), true);
        }
        due.is("no TAG", x.verify(1220), false);
        x.group(-1L, 0);
        due.is("in the GROUP", x.verify(0), true);
        due.is("beyond the GROUP", x.verify(305), false);
        x.act(0, 0);
        due.is("went", x.verify(0), false);
        RollCall sleeper = new RollCall();
        sleeper.tag(4, 1, 0);
        due.is("ASLEEP", sleeper.verify(305), false);
    }

    private static void verifyCosts(Due due) {
        RollCall x = Make.tags(1, 1);
        x.verify(305);
        due.is("to the end", x.cost(3), 193);
        x.verify(304);
        due.is("another last bit", x.cost(3), 193 + 193);
        x.verify(305 ^ 2);
        due.is("another last bit but one", x.cost(3), 193 + 193 + 190);
        x.verify(305 ^ Long.MIN_VALUE);
        due.is("another first bit", x.cost(3), 193 + 193 + 190 + 4);
        x.act(0, 0);
        x.verify(305);
        due.is("nobody", x.cost(3), 193 + 193 + 190 + 4 + 1);
        due.is("no other slots", x.cost(4), x.cost(3));
    }

    private static void verifyTells(Due due) {
        RollCall x = Make.tags(1, 1, 2, 3);
        due.is("to the end", x.verify(305), true);
        for (int bit = 0; bit < 64; bit++) {
            due.is("another bit " + bit, x.verify(305 ^ 1L << (63 - bit)), false);
        }
    }

    private static void verifyLeavesTheRow(Due due) {
        RollCall x = Make.tags(1, 8, 9);
        due.is("first", x.pass(), 0);
        due.is("verify", x.verify(x.name(1)), true);
        due.is("verify of none", x.verify(0), false);
        due.is("fork(0)", x.fork(0), 55);
        due.is("fork(1)", x.fork(1), 1);
        x.tag(1, 0, 0);
        due.is("ahead of the LAST FORK the way of the NAME found", x.pass(), 1);
    }
}
