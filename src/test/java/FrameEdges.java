import java.util.List;

/** Edges of Terms 5 and promises 19 to 21: frames, frame, heard. */
final class FrameEdges {
    private static final String HERE = "Terms 5";

    private FrameEdges() {
    }

    static List<Edge> all() {
        return List.of(
            Edge.of(HERE, "FRAMES, for SLOTTED and those under it", FrameEdges::whoIsInFrames)
                .brokenBy("(ofKind[SLOTTED] | ofKind[SPLIT] | ofKind[SLEEPER] | ofKind[WEAK]);", "~ofKind[BIT];")
                .brokenBy("(ofKind[SLOTTED] | ofKind[SPLIT] | ofKind[SLEEPER] | ofKind[WEAK]);", "(ofKind[SPLIT] | ofKind[SLEEPER] | ofKind[WEAK]);")
                .brokenBy("(ofKind[SLOTTED] | ofKind[SPLIT] | ofKind[SLEEPER] | ofKind[WEAK]);", "(ofKind[SLOTTED] | ofKind[SPLIT] | ofKind[SLEEPER]);"),
            Edge.of(HERE, "a frame has a length, 1 .. 64", FrameEdges::lengths)
                .brokenBy("if (length < 1 || length > LONGEST_FRAME) {", "if (length <= 1 || length > LONGEST_FRAME) {")
                .brokenBy("if (length < 1 || length > LONGEST_FRAME) {", "if (length < 1 || length >= LONGEST_FRAME) {"),
            Edge.of(HERE, "those that LISTEN and were not found in a frame since the frames began draw a slot below it, by number, and speak in it",
                    FrameEdges::whoDraws)
                .brokenBy("now.tags.slotted() & ~now.frames.foundInOne;", "now.tags.slotted();")
                .brokenBy("return listening() & (ofKind[SLOTTED]", "return there & awake & (ofKind[SLOTTED]")
                .brokenBy("                findAndTire(firstOf(audible));\n", "                findAndTire(firstOf(audible));\n                now.frames.foundInOne |= slotSpeakers[slot];\n")
                .brokenBy("now.tags.slotted() & ~now.frames.foundInOne;", "now.tags.slotted() & ~(now.tally.foundSize > 0 ? setOf(now.tally.foundTags[0]) : 0L);"),
            Edge.of(HERE, "ALONE ones are found.", FrameEdges::aloneOnesAreFound)
                .brokenBy("                findAndTire(firstOf(audible));\n", "                now.tags.tire(firstOf(audible));\n")
                .brokenBy("for (int slot = 0; slot < length; slot++) {", "for (int slot = length - 1; slot >= 0; slot--) {")
                .brokenBy("        Arrays.fill(slotSpeakers, 0L);\n", ""),
            Edge.of(HERE, "The length that is guessed next: 2.39f (a float) times the COLLISIONS, cut", FrameEdges::guesses)
                .brokenBy("2.39f", "2.4f")
                .brokenBy("2.39f", "2.38f")
                .brokenBy("(int) (2.39f * (float) collisions)", "(int) (0.5f + 2.39f * (float) collisions)"),
            Edge.of(HERE, "1 at least", FrameEdges::oneAtLeast)
                .brokenBy("Math.max(1, Math.min(LONGEST_FRAME, cut))", "Math.max(0, Math.min(LONGEST_FRAME, cut))"),
            Edge.of(HERE, "64 at most", FrameEdges::sixtyFourAtMost)
                .unbroken("forty TAGS make 20 COLLISIONS at most, and 47 is guessed then")
                .brokenBy("Math.max(1, Math.min(LONGEST_FRAME, cut))", "Math.max(1, Math.min(40, cut))"),

            Edge.of("Promise 19", "Frames begin: nobody was found in one.", FrameEdges::framesBegin)
                .brokenBy("        now.frames.foundInOne = 0;\n", ""),
            Edge.of("Promise 20", "A frame of a length: how many were found in it.", FrameEdges::frameTells)
                .brokenBy("return now.frames.alones;\n    }\n\n    public int heard", "return now.tally.foundSize;\n    }\n\n    public int heard")
                .brokenBy("return now.frames.alones;\n    }\n\n    public int heard", "return Long.bitCount(now.frames.foundInOne);\n    }\n\n    public int heard"),
            Edge.of("Promise 20", "NONE: another length.", FrameEdges::anotherLength)
                .brokenBy("if (length < 1 || length > LONGEST_FRAME) {", "if (length < 0 || length > LONGEST_FRAME) {")
                .brokenBy("if (length < 1 || length > LONGEST_FRAME) {", "if (length < 1 || length > LONGEST_FRAME + 1) {"),

            Edge.of("Promise 21", "Of the latest frame, what 0, 1, 2: QUIET, ALONE, COLLISION slots", FrameEdges::heardOfTheLatest)
                .brokenBy("            quiets = 0;\n", "")
                .brokenBy("            alones = 0;\n", "")
                .brokenBy("            collisions = 0;\n", ""),
            Edge.of("Promise 21", "3: the length that is guessed next", FrameEdges::heardGuess)
                .brokenBy("        now.frames.guessNext();\n", "")
                .brokenBy("        now.frames.foundInOne = 0;\n", "        now.frames.foundInOne = 0;\n        now.frames.guess = 0;\n"),
            Edge.of("Promise 21", "(0 for all ahead of any)", FrameEdges::aheadOfAny)
                .brokenBy("        int guess;\n", "        int guess = 1;\n")
                .brokenBy("        now.frames.foundInOne = 0;\n", "        now.frames.foundInOne = 0;\n        now.frames.guessNext();\n"),
            Edge.of("Promise 21", "NONE for another what.", FrameEdges::heardOfAnotherWhat)
                .brokenBy("return now.frames.guess;\n            default:\n                return NONE;", "return now.frames.guess;\n            default:\n                return 0;"));
    }

    private static int inSlot(int slot) {
        return Make.seedThatDraws(64, slot);
    }

    private static void isHeard(Due due, String where, RollCall x, int... heard) {
        for (int what = 0; what < heard.length; what++) {
            due.is("heard(" + what + ") " + where, x.heard(what), heard[what]);
        }
    }

    private static void whoIsInFrames(Due due) {
        RollCall x = new RollCall();
        for (int kind = 0; kind < 6; kind++) {
            Make.addAwake(x, kind, kind, inSlot(10 * kind));
        }
        due.is("KINDS 2 to 5", x.frame(64), 4);
        for (int kind = 0; kind < 6; kind++) {
            due.is("KIND " + kind + " is found", x.tell(kind, 6), kind < 2 ? 0 : 1);
            due.is("KIND " + kind + " has drawn", x.tell(kind, 5) != inSlot(10 * kind), kind >= 2);
        }
    }

    private static void lengths(Due due) {
        RollCall x = Make.seeds(2, inSlot(0), inSlot(63));
        due.is("64", x.frame(64), 2);
        isHeard(due, "of 64", x, 62, 2, 0);
        x.frames();
        due.is("1", x.frame(1), 0);
        isHeard(due, "of 1", x, 0, 0, 1);
        for (int length = 1; length <= 64; length++) {
            RollCall y = Make.seeds(2, 77);
            due.is("frame(" + length + ")", y.frame(length), 1);
            due.is("slots of it", y.cost(4), length);
        }
    }

    /** TAG 0 is found, TAGS 1 and 2 collide, TAG 3 went, 4 is ASLEEP, 5 is beyond the GROUP. */
    private static void whoDraws(Due due) {
        RollCall x = Make.seeds(4, inSlot(9), inSlot(8), inSlot(8), inSlot(7), inSlot(6));
        Make.addAwake(x, 4, 1L << 55, inSlot(5));
        x.act(3, 0);
        x.act(4, 3);
        x.group(1L << 63, 0);
        due.is("who LISTENS", x.count(1), 3);
        due.is("found", x.frame(64), 1);
        isHeard(due, "of the first", x, 62, 1, 1);
        for (int tag = 3; tag < 6; tag++) {
            due.is("TAG " + tag + " drew nothing", x.tell(tag, 5), inSlot(10 - tag));
        }
        int seed = x.tell(0, 5);
        x.act(0, 2);
        x.frame(1);
        due.is("a found one draws nothing", x.tell(0, 5), seed);
        isHeard(due, "of the second", x, 0, 0, 1);
        x.act(0, 0);
        x.act(1, 0);
        x.act(0, 1);
        due.is("gone and back, it was found all the same", x.frame(1), 1);
        due.is("the other", x.found(1), 2);
        dueOfOtherWays(due);
        dueOfCoveredOnes(due);
    }

    private static void dueOfOtherWays(Due due) {
        RollCall x = Make.seeds(3, 0);
        x.pass();
        x.descend();
        x.step();
        x.begin();
        x.split();
        due.is("found in three other ways, it speaks", x.frame(1), 1);
    }

    private static void dueOfCoveredOnes(Due due) {
        RollCall x = Make.seeds(5, 0);
        Make.addAwake(x, 2, 1, 0);
        x.wire(1);
        due.is("a weak one is covered", x.frame(1), 1);
        due.is("the strong one is found", x.found(0), 1);
        due.is("the weak one speaks again", x.frame(1), 1);
        due.is("it is found", x.found(1), 0);
    }

    private static void aloneOnesAreFound(Due due) {
        RollCall x = Make.seeds(2, inSlot(63), inSlot(5), inSlot(0), inSlot(5), inSlot(31));
        due.is("three of five", x.frame(64), 3);
        due.is("slot 0", x.found(0), 2);
        due.is("slot 31", x.found(1), 4);
        due.is("slot 63", x.found(2), 0);
        due.is("none behind", x.found(3), -1);
        x.group(-1L, -1L);
        due.is("nobody speaks", x.frame(64), 0);
        isHeard(due, "of nobody", x, 64, 0, 0);
    }

    private static RollCall pairs(int pairs) {
        RollCall x = new RollCall();
        for (int i = 0; i < 2 * pairs; i++) {
            x.tag(2, i, inSlot(3 * (i / 2)));
        }
        return x;
    }

    private static void guesses(Due due) {
        int[] guesses = {1, 2, 4, 7, 9, 11, 14, 16, 19, 21, 23, 26, 28, 31, 33, 35, 38, 40, 43, 45, 47};
        for (int collisions = 0; collisions <= 20; collisions++) {
            RollCall x = pairs(collisions);
            x.frame(64);
            isHeard(due, "of " + collisions + " pairs", x, 64 - collisions, 0, collisions, guesses[collisions]);
        }
    }

    private static void oneAtLeast(Due due) {
        RollCall x = new RollCall();
        x.frame(64);
        due.is("nobody spoke", x.heard(3), 1);
        x.tag(2, 0, 0);
        x.frame(1);
        due.is("one spoke", x.heard(3), 1);
    }

    private static void sixtyFourAtMost(Due due) {
        RollCall x = pairs(20);
        x.frame(64);
        due.is("COLLISIONS", x.heard(2), 20);
        due.is("as many as can be guessed", x.heard(3), 47);
    }

    private static void framesBegin(Due due) {
        RollCall x = Make.seeds(2, 0, 1);
        due.is("both", x.frame(64), 2);
        due.is("nobody is left", x.frame(64), 0);
        x.frames();
        due.is("both speak again", x.frame(1), 0);
        isHeard(due, "of both", x, 0, 0, 1);
        due.is("found before, they are in the row", x.count(2), 2);
        x.frames();
        x.frames();
        due.is("it takes no slot", x.cost(4), 129);
    }

    private static void frameTells(Due due) {
        RollCall x = Make.seeds(2, inSlot(1), inSlot(2), inSlot(3), inSlot(3));
        x.pass();
        due.is("two of four", x.frame(64), 2);
        x.act(3, 0);
        due.is("one more", x.frame(64), 1);
        due.is("none more", x.frame(64), 0);
        RollCall all = new RollCall();
        for (int i = 0; i < 40; i++) {
            all.tag(2, i, inSlot(63 - i));
        }
        due.is("forty", all.frame(64), 40);
    }

    private static void anotherLength(Due due) {
        RollCall x = Make.seeds(2, 0);
        for (int length : Make.intsBeyond(1, 64)) {
            due.is("frame(" + length + ")", x.frame(length), -1);
        }
        due.is("nobody drew", x.tell(0, 5), 0);
    }

    private static void heardOfTheLatest(Due due) {
        RollCall x = Make.seeds(2, inSlot(1), inSlot(2), inSlot(2));
        x.frame(64);
        isHeard(due, "of 64", x, 62, 1, 1);
        x.group(-1L, 0);
        x.frame(5);
        isHeard(due, "of 5, all QUIET", x, 5, 0, 0);
        x.group(0, 0);
        x.frame(1);
        isHeard(due, "of 1, a COLLISION", x, 0, 0, 1);
        x.ask(0, 0);
        x.descend();
        x.step();
        isHeard(due, "behind slots that are of no frame", x, 0, 0, 1);
        due.is("cost is of all frames", x.cost(0), 62 + 5);
    }

    private static void heardGuess(Due due) {
        RollCall x = pairs(3);
        x.frame(64);
        due.is("of three COLLISIONS", x.heard(3), 7);
        x.frames();
        due.is("frames begin: the latest one is the latest still", x.heard(3), 7);
        x.frame(1);
        due.is("of one COLLISION", x.heard(3), 2);
    }

    private static void aheadOfAny(Due due) {
        RollCall x = Make.seeds(2, 0, 1);
        isHeard(due, "of a new object", x, 0, 0, 0, 0);
        x.frames();
        x.frame(0);
        x.frame(65);
        x.ask(0, 0);
        isHeard(due, "ahead of any frame", x, 0, 0, 0, 0);
    }

    private static void heardOfAnotherWhat(Due due) {
        RollCall x = Make.seeds(2, 0);
        for (int round = 0; round < 2; round++) {
            for (int what : Make.intsBeyond(0, 3)) {
                due.is("heard(" + what + ")", x.heard(what), -1);
            }
            x.frame(4);
        }
    }
}
