import java.util.List;

/** Edges of Terms 1: TAGS, NAMES and their SUMS, KINDS, who LISTENS, draws, the WIRE and its slots. */
final class TermEdges {
    private static final String HERE = "Terms 1";

    private TermEdges() {
    }

    static List<Edge> all() {
        return List.of(
            Edge.of(HERE, "TAGS (at most 40, from 0 on)", TermEdges::atMostForty)
                .brokenBy("MOST_TAGS = 40", "MOST_TAGS = 41")
                .brokenBy("MOST_TAGS = 40", "MOST_TAGS = 39"),
            Edge.of(HERE, "TAGS (at most 40, from 0 on) have a KIND, a NAME of 64 bits, bit 0 the first and highest one, and a SEED.",
                    TermEdges::whatATagHas)
                .brokenBy("            kinds[tag] = kind;\n", "")
                .brokenBy("            names[tag] = name;\n", "")
                .brokenBy("            seeds[tag] = seed;\n", ""),
            Edge.of(HERE, "a NAME of 64 bits, bit 0 the first and highest one", TermEdges::bitZeroIsTheHighest)
                .brokenBy("name >>> (NAME_BITS - 1 - bit) & 1", "name >>> bit & 1"),
            Edge.of(HERE, "A NAME's last 8 bits are the SUM of the 56 ahead: a byte, 0 at first", TermEdges::sumOfNothing)
                .brokenBy("int sum = 0;", "int sum = 255;")
                .brokenBy("bit < NAME_BITS - SUM_BITS; bit++", "bit < NAME_BITS; bit++"),
            Edge.of(HERE, "for each of these bits in order", TermEdges::bitsInOrder)
                .brokenBy("if (fellOut != isOneAt(name, bit)) {", "if (fellOut != isOneAt(name, 55 - bit)) {")
                .brokenBy("bit < NAME_BITS - SUM_BITS; bit++", "bit < NAME_BITS - SUM_BITS - 1; bit++"),
            Edge.of(HERE, "it is shifted left by one, its lowest bit 0", TermEdges::sumIsShifted)
                .brokenBy("sum = (sum << 1) & 0xFF;", "sum = (sum << 1 | 1) & 0xFF;"),
            Edge.of(HERE, "if the bit that fell out is not the NAME's bit it becomes exclusive or 49", TermEdges::bitFallsOut)
                .brokenBy("sum = (sum << 1) & 0xFF;", "sum = sum << 1;")
                .brokenBy("if (fellOut != isOneAt(name, bit)) {", "if (isOneAt(name, bit)) {")
                .brokenBy("if (fellOut != isOneAt(name, bit)) {", "if (fellOut || isOneAt(name, bit)) {")
                .brokenBy("SUM_POLYNOMIAL = 0x31", "SUM_POLYNOMIAL = 0x30"),
            Edge.of(HERE, "0 BIT", due -> ways(due, 0, false, false, false))
                .brokenBy("return listening() & ~ofKind[BIT];", "return listening();"),
            Edge.of(HERE, "1 ASKED under it", due -> ways(due, 1, true, false, false))
                .brokenBy("return listening() & ~ofKind[BIT];", "return listening() & ~(ofKind[BIT] | ofKind[1]);")
                .brokenBy("(ofKind[SLOTTED] | ", "(ofKind[1] | ofKind[SLOTTED] | "),
            Edge.of(HERE, "2 SLOTTED under ASKED", due -> ways(due, 2, true, true, false))
                .brokenBy("return listening() & ~ofKind[BIT];", "return listening() & ~(ofKind[BIT] | ofKind[2]);")
                .brokenBy("(ofKind[SLOTTED] | ", "(")
                .brokenBy("(ofKind[SPLIT] | ofKind[SLEEPER]);", "(ofKind[SLOTTED] | ofKind[SPLIT] | ofKind[SLEEPER]);"),
            Edge.of(HERE, "3 SPLIT under SLOTTED", due -> ways(due, 3, true, true, true))
                .brokenBy("(ofKind[SLOTTED] | ofKind[SPLIT] | ", "(ofKind[SLOTTED] | ")
                .brokenBy("(ofKind[SPLIT] | ofKind[SLEEPER]);", "(ofKind[SLEEPER]);"),
            Edge.of(HERE, "4 SLEEPER under SPLIT", due -> ways(due, 4, true, true, true))
                .brokenBy("ofKind[SPLIT] | ofKind[SLEEPER] | ", "ofKind[SPLIT] | ")
                .brokenBy("(ofKind[SPLIT] | ofKind[SLEEPER]);", "(ofKind[SPLIT]);"),
            Edge.of(HERE, "5 WEAK under SLOTTED", due -> ways(due, 5, true, true, false))
                .brokenBy(" | ofKind[WEAK]);", ");")
                .brokenBy("(ofKind[SPLIT] | ofKind[SLEEPER]);", "(ofKind[SPLIT] | ofKind[SLEEPER] | ofKind[WEAK]);"),
            Edge.of(HERE, "A TAG is THERE (from its making on) or went", TermEdges::thereFromItsMakingOn)
                .brokenBy("            there |= setOf(tag);\n", "")
                .brokenBy("            there ^= setOf(tag);\n", ""),
            Edge.of(HERE, "it is AWAKE, but a SLEEPER is ASLEEP at first", TermEdges::asleepAtFirst)
                .brokenBy("if (kind != SLEEPER) {", "if (kind >= BIT) {")
                .brokenBy("if (kind != SLEEPER) {", "if (kind < SLEEPER) {"),
            Edge.of(HERE, "It LISTENS if it is THERE, AWAKE, and in the GROUP", TermEdges::listens)
                .brokenBy("return there & awake & grouped;", "return awake & grouped;")
                .brokenBy("return there & awake & grouped;", "return there & grouped;")
                .brokenBy("return there & awake & grouped;", "return there & awake;"),
            Edge.of(HERE, "its NAME, under the GROUP's mask, is the GROUP's bits", TermEdges::underTheMask)
                .brokenBy("return (name & groupMask) == groupBits;", "return (name & groupBits) == groupBits;")
                .brokenBy("return (name & groupMask) == groupBits;", "return name == groupBits || groupMask == 0;")
                .brokenBy("return (name & groupMask) == groupBits;", "return (int) (name & groupMask) == (int) groupBits;"),
            Edge.of(HERE, "(a mask of 0 at first: all)", TermEdges::allAtFirst)
                .brokenBy("        long groupMask;\n", "        long groupMask = 1L;\n"),
            Edge.of(HERE, "the SEED becomes 1103515245 times itself and 12345 (32 bits)", TermEdges::seedWraps)
                .brokenBy("1103515245 * seeds[tag] + 12345", "(1103515245 * seeds[tag] + 12345) & Integer.MAX_VALUE")
                .brokenBy("1103515245 * seeds[tag] + 12345", "1103515245 * Math.abs(seeds[tag]) + 12345")
                .brokenBy("1103515245 * seeds[tag] + 12345", "1103515245 * seeds[tag] + 12346"),
            Edge.of(HERE, "shifted right by 16 without its sign", TermEdges::withoutItsSign)
                .brokenBy("(seeds[tag] >>> 16)", "(seeds[tag] >> 16)")
                .brokenBy("(seeds[tag] >>> 16)", "((seeds[tag] & Integer.MAX_VALUE) >> 16)")
                .brokenBy("(seeds[tag] >>> 16)", "(seeds[tag] >>> 15)"),
            Edge.of(HERE, "the rest by n", TermEdges::restByN)
                .brokenBy("(seeds[tag] >>> 16) % below", "(seeds[tag] >>> 16) & (below - 1)")
                .brokenBy("(seeds[tag] >>> 16) % below", "(seeds[tag] >>> 16) % (below + 1)"),
            Edge.of(HERE, "The WIRE is of COPPER (0; at first) or AIR (1)", TermEdges::copperAtFirst)
                .brokenBy("int wireKind = COPPER;", "int wireKind = AIR;"),
            Edge.of(HERE, "A SLOT is QUIET if nobody speaks", TermEdges::quiet)
                .brokenBy("return QUIET;", "return COLLISION;"),
            Edge.of(HERE, "ALONE, if one does", TermEdges::aloneIfOneDoes)
                .brokenBy("return isCovering ? strong : speakers;", "return now.wireKind == AIR ? strong : speakers;"),
            Edge.of(HERE, "in AIR, if one that is not WEAK does, and others that are", TermEdges::strongOverWeak)
                .brokenBy("return isCovering ? strong : speakers;", "return speakers;")
                .brokenBy("kindOfSlot(strong) == ALONE;", "kindOfSlot(strong) == ALONE && Long.bitCount(speakers) == 2;"),
            Edge.of(HERE, "else a COLLISION", TermEdges::elseACollision)
                .brokenBy("now.wireKind == AIR && kindOfSlot(strong) == ALONE;", "kindOfSlot(strong) == ALONE;")
                .brokenBy("return isCovering ? strong : speakers;", "return isCovering ? strong : speakers & -speakers;"));
    }

    private static void atMostForty(Due due) {
        RollCall x = new RollCall();
        for (int i = 0; i < 40; i++) {
            due.is("tag " + i, x.tag(1, i, i), i);
        }
        due.is("a 41st", x.tag(1, 40, 0), -1);
        due.is("count(0)", x.count(0), 40);
        due.is("KIND of the 40th", x.tell(39, 0), 1);
        due.is("KIND of a 41st", x.tell(40, 0), -1);
    }

    private static void whatATagHas(Due due) {
        RollCall x = new RollCall();
        long[] names = {0x131, 0x262, 0x353, 0x4C4, 0x5F5, 0x6A6};
        for (int kind = 0; kind < 6; kind++) {
            x.tag(kind, kind + 1, 1000 - kind);
        }
        for (int kind = 0; kind < 6; kind++) {
            due.is("its KIND", x.tell(kind, 0), kind);
            due.is("its NAME", x.name(kind), names[kind]);
            due.is("its SEED", x.tell(kind, 5), 1000 - kind);
        }
    }

    private static void bitZeroIsTheHighest(Due due) {
        RollCall x = Make.tags(1, 1L << 55, 1);
        due.is("NAME with bit 0", x.name(0) < 0, true);
        due.is("NAME with bit 55", x.name(1) >> 8, 1);
        due.is("those that begin with 1", x.ask(1L << 63, 1), 1);
        due.is("it", x.alone(), 0);
        due.is("fork at bit 0: the other one first", x.pass(), 1);
        due.is("the LAST FORK", x.fork(0), 0);
    }

    private static void sumOfNothing(Due due) {
        RollCall x = Make.tags(1, 0);
        due.is("NAME of 56 zeros", x.name(0), 0);
        due.is("isName(0)", x.isName(0), true);
        for (int last = 1; last < 256; last++) {
            due.is("isName(" + last + ")", x.isName(last), false);
        }
    }

    /** A 1 at the last of the 56 bits is not shifted, one at the first of them 55 times. */
    private static void bitsInOrder(Due due) {
        RollCall x = Make.tags(1, 1, 1L << 55, 0xA0000000000003L);
        due.is("the last bit", x.name(0) & 0xFF, 0x31);
        due.is("the first bit", x.name(1) & 0xFF, 0xBC);
        due.is("bits that are no mirror's", x.name(2) & 0xFF, 0xC0);
    }

    /** 49, then 98, then 196: no bit falls out of the byte. */
    private static void sumIsShifted(Due due) {
        RollCall x = Make.tags(1, 1, 2, 4);
        due.is("NAME of 1", x.name(0), 0x131);
        due.is("NAME of 2", x.name(1), 0x262);
        due.is("NAME of 4", x.name(2), 0x4C4);
    }

    /** 196 is 11000100: a 1 falls out and 136 stays, which is 185 with 49. */
    private static void bitFallsOut(Due due) {
        RollCall x = Make.tags(1, 8, 9);
        due.is("a 1 falls out, the bit is 0", x.name(0), 0x8B9);
        due.is("a 1 falls out, the bit is 1", x.name(1), 0x988);
        due.is("isName", x.isName(0x8B9) && x.isName(0x988), true);
        due.is("isName without it", x.isName(0x888) || x.isName(0x9B9), false);
    }

    private static void ways(Due due, int kind, boolean isAsked, boolean isSlotted, boolean isSplit) {
        RollCall x = Make.tags(kind, 5);
        due.is("by bits", x.pass(), 0);
        due.is("by beginnings", x.ask(0, 0), isAsked ? 1 : 0);
        due.is("by counters", x.begin(), isSplit ? 1 : 0);
        due.is("its counter", x.tell(0, 4), isSplit ? 0 : -1);
        due.is("in frames", x.frame(1), isSlotted ? 1 : 0);
        due.is("its KIND", x.tell(0, 0), kind);
    }

    private static void thereFromItsMakingOn(Due due) {
        RollCall x = new RollCall();
        x.tag(1, 1, 0);
        due.is("THERE", x.tell(0, 1), 1);
        due.is("it comes back", x.act(0, 1), false);
        due.is("it goes", x.act(0, 0), true);
        due.is("went", x.tell(0, 1), 0);
        due.is("a TAG all the same", x.count(0), 1);
        due.is("with its NAME", x.name(0), 305);
    }

    private static void asleepAtFirst(Due due) {
        RollCall x = new RollCall();
        for (int kind = 0; kind < 6; kind++) {
            x.tag(kind, kind, 0);
            due.is("AWAKE, KIND " + kind, x.tell(kind, 2), kind == 4 ? 0 : 1);
        }
        due.is("that LISTEN", x.count(1), 5);
    }

    private static void listens(Due due) {
        RollCall x = Make.tags(4, 0);
        due.is("THERE, AWAKE, in the GROUP", x.tell(0, 3), 1);
        x.act(0, 0);
        due.is("went", x.tell(0, 3), 0);
        due.is("none LISTENS, one went", x.count(1), 0);
        x.act(0, 1);
        x.act(0, 3);
        due.is("ASLEEP", x.tell(0, 3), 0);
        due.is("none LISTENS, one is ASLEEP", x.count(1), 0);
        x.act(0, 2);
        x.group(-1L, 1);
        due.is("beyond the GROUP", x.tell(0, 3), 0);
        due.is("none LISTENS, one is beyond the GROUP", x.count(1), 0);
        x.group(-1L, 0);
        due.is("all of it again", x.tell(0, 3), 1);
    }

    private static void underTheMask(Due due) {
        RollCall x = Make.tags(1, 1, 2, 3L << 54);
        due.is("a 0 of the GROUP's bits counts", x.group(0x300, 0x100), 1);
        due.is("who", x.tell(0, 3), 1);
        due.is("bits that are all 0", x.group(0x300, 0), 1);
        due.is("who", x.tell(2, 3), 1);
        due.is("the highest bit", x.group(1L << 63, 1L << 63), 1);
        due.is("who", x.tell(2, 3), 1);
        due.is("the highest bit is 0", x.group(1L << 63, 0), 2);
        due.is("all 64 bits", x.group(-1L, 610), 1);
        due.is("all 64 bits but for the last", x.group(-1L, 611), 0);
        due.is("bits of the SUM", x.group(0xFF, 0x31), 1);
    }

    private static void allAtFirst(Due due) {
        RollCall x = Make.tags(1, 0, 1, -1L, 1L << 55);
        due.is("that LISTEN", x.count(1), 4);
        due.is("a mask of 0", x.group(0, 0), 4);
    }

    private static void seedWraps(Due due) {
        int[][] rows = {{0, 12345}, {-1, -1103502900}, {Integer.MAX_VALUE, 1043980748},
            {Integer.MIN_VALUE, -2147471303}, {3, -984409216}};
        for (int[] row : rows) {
            RollCall x = Make.seeds(2, row[0]);
            x.frame(7);
            due.is("SEED " + row[0], x.tell(0, 5), row[1]);
        }
    }

    /** The SEED -1 becomes -1103502900, which is 48697 shifted without its sign. */
    private static void withoutItsSign(Due due) {
        RollCall x = Make.seeds(3, -1, -1);
        x.begin();
        due.is("COLLISION", x.split(), 2);
        due.is("drawn below 2", x.tell(0, 4), 1);
        int[][] rows = {{3, 1}, {5, 2}, {7, 5}, {63, 61}, {64, 57}};
        for (int[] row : rows) {
            drawsSlot(due, -1, row[0], row[1]);
        }
    }

    /** The SEED 1 becomes 1103527590, which is 16838 shifted. */
    private static void restByN(Due due) {
        int[][] rows = {{1, 0}, {2, 0}, {3, 2}, {5, 3}, {63, 17}, {64, 6}};
        for (int[] row : rows) {
            drawsSlot(due, 1, row[0], row[1]);
        }
        RollCall x = Make.seeds(2, 0, 10);
        due.is("slots 0 and 63 of 64", x.frame(64), 2);
    }

    /** It is seen by another one, which collides with it there, and is found ahead of it or behind it elsewhere. */
    private static void drawsSlot(Due due, int seed, int length, int slot) {
        for (int other = Math.max(0, slot - 1); other < Math.min(length, slot + 2); other++) {
            RollCall x = Make.seeds(2, seed, Make.seedThatDraws(length, other));
            due.is("below " + length + " beside slot " + other, x.frame(length), other == slot ? 0 : 2);
            due.is("who is first", x.found(0), other == slot ? -1 : other < slot ? 1 : 0);
        }
    }

    private static void copperAtFirst(Due due) {
        RollCall x = Make.tags(5, 0, 1);
        Make.addAwake(x, 2, 2, 0);
        due.is("at first", x.ask(0, 0), 2);
        x.wire(1);
        due.is("of AIR", x.ask(0, 0), 1);
        x.wire(0);
        due.is("of COPPER", x.ask(0, 0), 2);
    }

    private static void quiet(Due due) {
        RollCall x = new RollCall();
        for (int wire = 0; wire < 2; wire++) {
            x.wire(wire);
            due.is("ask()", x.ask(0, 0), 0);
            x.descend();
            due.is("step()", x.step(), 0);
            x.begin();
            due.is("split()", x.split(), 0);
            x.frame(1);
            due.is("frame()", x.heard(0), 1);
        }
        due.is("QUIET slots", x.cost(0), 8);
    }

    private static void aloneIfOneDoes(Due due) {
        for (int wire = 0; wire < 2; wire++) {
            for (int kind = 1; kind < 6; kind++) {
                RollCall x = Make.tags(kind, 5);
                x.wire(wire);
                due.is("KIND " + kind + " on wire " + wire, x.ask(0, 0), 1);
                due.is("who", x.alone(), 0);
                x.frame(1);
                due.is("in a frame", x.heard(1), kind == 1 ? 0 : 1);
            }
        }
    }

    private static void strongOverWeak(Due due) {
        for (int kind = 1; kind < 5; kind++) {
            for (int weak = 1; weak < 4; weak++) {
                RollCall x = new RollCall();
                x.wire(1);
                for (int i = 0; i < weak; i++) {
                    Make.addAwake(x, 5, i, 0);
                }
                Make.addAwake(x, kind, 9, 0);
                due.is(weak + " weak ones and KIND " + kind, x.ask(0, 0), 1);
                due.is("who", x.alone(), weak);
                x.frame(1);
                due.is("in a frame", x.heard(1), kind == 1 && weak > 1 ? 0 : 1);
            }
        }
    }

    private static void elseACollision(Due due) {
        RollCall weak = Make.tags(5, 0, 1);
        due.is("weak ones, COPPER", weak.ask(0, 0), 2);
        weak.wire(1);
        due.is("weak ones, AIR", weak.ask(0, 0), 2);
        due.is("nobody ALONE", weak.alone(), -1);
        RollCall mixed = Make.tags(5, 0);
        Make.addAwake(mixed, 2, 1, 0);
        due.is("one of each, COPPER", mixed.ask(0, 0), 2);
        Make.addAwake(mixed, 1, 2, 0);
        mixed.wire(1);
        due.is("one weak, two strong, AIR", mixed.ask(0, 0), 2);
        RollCall strong = Make.tags(2, 0, 1);
        due.is("strong ones, COPPER", strong.ask(0, 0), 2);
        strong.wire(1);
        due.is("strong ones, AIR", strong.ask(0, 0), 2);
    }
}
