import java.util.List;

/** Edges of Terms 4 and promises 17 and 18: begin, split. */
final class CounterEdges {
    private static final String HERE = "Terms 4";
    private static final int ZERO = Make.seedThatDraws(2, 0, 0);
    private static final int ZERO_ONE = Make.seedThatDraws(2, 0, 1);
    private static final int ONE = Make.seedThatDraws(2, 1, 1);

    private CounterEdges() {
    }

    static List<Edge> all() {
        return List.of(
            Edge.of(HERE, "BY COUNTERS, for SPLIT and those under it", CounterEdges::whoHasCounters)
                .brokenBy("(ofKind[SPLIT] | ofKind[SLEEPER]);", "(ofKind[SPLIT] | ofKind[SLEEPER] | ofKind[SLOTTED]);")
                .brokenBy("(ofKind[SPLIT] | ofKind[SLEEPER]);", "~(ofKind[BIT] | ofKind[1] | ofKind[SLOTTED]);")
                .brokenBy("(ofKind[SPLIT] | ofKind[SLEEPER]);", "ofKind[SPLIT];"),
            Edge.of(HERE, "the caller's count is 0, and each that LISTENS then has a counter 0 (others have none)", CounterEdges::atItsBegin)
                .brokenBy("            Arrays.fill(values, 0);\n", "")
                .brokenBy("            holders = all;\n", "            holders |= all;\n")
                .brokenBy("            callers = 0;\n", "            callers = Math.max(0, callers);\n"),
            Edge.of(HERE, "A STEP, one slot", CounterEdges::oneSlot)
                .brokenBy("int heard = hearSlot(speakers);", "hearSlot(0L);\n        int heard = hearSlot(speakers);")
                .brokenBy("int heard = hearSlot(speakers);", "int heard = kindOfSlot(speakers);"),
            Edge.of(HERE, "those with counter 0 that LISTEN speak", CounterEdges::whoSpeaks)
                .brokenBy("isIn(listening & holders, tag) && values[tag] == 0", "isIn(holders, tag) && values[tag] == 0")
                .brokenBy("isIn(listening & holders, tag) && values[tag] == 0", "isIn(listening, tag) && values[tag] == 0")
                .brokenBy("isIn(listening & holders, tag) && values[tag] == 0", "isIn(listening & holders, tag) && values[tag] <= 1"),
            Edge.of(HERE, "COLLISION: those draw a number below 2, that is their counter", CounterEdges::collisionDraws)
                .brokenBy("now.tags.draw(tag, 2)", "now.tags.draw(tag, 3)")
                .brokenBy("now.tags.draw(tag, 2)", "now.tags.draw(tag, 1)")
                .brokenBy("drawCounters(speakers);", "drawCounters(listening);"),
            Edge.of(HERE, "of all others that LISTEN and have one it is one more; the caller's count too", CounterEdges::othersGoUp)
                .brokenBy("now.counters.shift(listening & ~speakers, 1);\n            drawCounters(speakers);", "drawCounters(speakers);\n            now.counters.callers++;")
                .brokenBy("now.counters.shift(listening & ~speakers, 1);", "now.counters.shift(~speakers, 1);")
                .brokenBy("now.counters.shift(listening & ~speakers, 1);\n            drawCounters(speakers);",
                    "drawCounters(speakers);\n            now.counters.shift(listening, 1);")
                .brokenBy("            callers += by;\n", "            callers += Math.min(0, by);\n"),
            Edge.of(HERE, "Else, if ALONE, it is found and has none any more", CounterEdges::aloneIsFound)
                .brokenBy("            now.counters.release(now.aloneTag);\n", "")
                .brokenBy("            findAndTire(now.aloneTag);\n", ""),
            Edge.of(HERE, "of all others that LISTEN and have one it is one less (0 at least), the caller's count too", CounterEdges::othersGoDown)
                .brokenBy("        now.counters.shift(listening, -1);\n", "        now.counters.callers--;\n")
                .brokenBy("        now.counters.shift(listening, -1);\n", "        now.counters.shift(now.tags.there, -1);\n")
                .brokenBy("        now.counters.shift(listening, -1);\n", "        if (heard == ALONE) {\n            now.counters.shift(listening, -1);\n        }\n")
                .brokenBy("            callers += by;\n", "            callers += Math.max(0, by);\n"),
            Edge.of(HERE, "(0 at least)", CounterEdges::zeroAtLeast)
                .unbroken("those with 0 that LISTEN have spoken: one of them was found, or there was none"),
            Edge.of(HERE, "It is over when that is below 0.", CounterEdges::overBelowZero)
                .brokenBy("return callers >= 0;", "return callers > 0;")
                .brokenBy("return callers >= 0;", "return callers >= NONE;"),

            Edge.of("Promise 17", "A SPLIT begins: how many have a counter.", CounterEdges::beginTells)
                .brokenBy("return Long.bitCount(holders);", "return Long.bitCount(now.tags.listening());")
                .brokenBy("return Long.bitCount(holders);", "return oneIf(holders != 0);"),
            Edge.of("Promise 18", "A STEP of the SPLIT, as ask() tells it", CounterEdges::splitTells)
                .brokenBy("now.counters.shift(listening, -1);\n        return heard;", "now.counters.shift(listening, -1);\n        return ALONE;")
                .brokenBy("drawCounters(speakers);\n            return heard;", "drawCounters(speakers);\n            return ALONE;"),
            Edge.of("Promise 18", "NONE: none is under way.", CounterEdges::noSplit)
                .brokenBy("if (!now.counters.isUnderWay()) {\n            return NONE;", "if (!now.counters.isUnderWay()) {\n            return QUIET;"));
    }

    private static void isCounters(Due due, String where, RollCall x, int... counters) {
        for (int tag = 0; tag < counters.length; tag++) {
            due.is("counter of " + tag + " " + where, x.tell(tag, 4), counters[tag]);
        }
    }

    private static void whoHasCounters(Due due) {
        for (int wire = 0; wire < 2; wire++) {
            RollCall x = new RollCall();
            x.wire(wire);
            for (int kind = 0; kind < 6; kind++) {
                Make.addAwake(x, kind, kind, kind == 3 ? ZERO : ONE);
            }
            due.is("a SPLIT one and a SLEEPER", x.begin(), 2);
            isCounters(due, "at its begin", x, -1, -1, -1, 0, 0, -1);
            due.is("COLLISION", x.split(), 2);
            isCounters(due, "drawn", x, -1, -1, -1, 0, 1, -1);
            due.is("ALONE, whatever the others are", x.split(), 1);
            due.is("who", x.alone(), 3);
        }
    }

    private static void oneSlot(Due due) {
        RollCall x = Make.seeds(3, ONE, ONE);
        x.begin();
        int[] tells = {2, 0, 2, 0};
        for (int i = 0; i < tells.length; i++) {
            due.is("step " + i, x.split(), tells[i]);
            due.is("slots", x.cost(4), i + 1);
        }
        x.act(0, 0);
        due.is("ALONE", x.split(), 1);
        due.is("slots", x.cost(4), 5);
    }

    private static void atItsBegin(Due due) {
        RollCall x = Make.seeds(4, ZERO, ONE, ZERO, ONE);
        x.begin();
        due.is("the caller's count", x.count(4), 0);
        isCounters(due, "at its begin", x, 0, 0, 0, 0);
        x.split();
        due.is("the caller's count behind a COLLISION", x.count(4), 1);
        x.act(0, 0);
        x.act(2, 3);
        due.is("two LISTEN", x.begin(), 2);
        due.is("the caller's count anew", x.count(4), 0);
        isCounters(due, "anew", x, -1, 0, -1, 0);
        x.group(-1L, -1L);
        x.begin();
        isCounters(due, "of nobody", x, -1, -1, -1, -1);
        due.is("the caller's count all the same", x.count(4), 0);
    }

    private static void whoSpeaks(Due due) {
        RollCall x = Make.seeds(3, ZERO, ONE, ZERO);
        x.begin();
        due.is("all three", x.split(), 2);
        isCounters(due, "drawn", x, 0, 1, 0);
        x.act(2, 0);
        Make.addAwake(x, 3, 50, 0);
        Make.addAwake(x, 2, 51, 0);
        due.is("one with 0 that LISTENS, without a latecomer", x.split(), 1);
        due.is("it", x.alone(), 0);
        x.act(2, 1);
        due.is("those with 0 now", x.split(), 2);
        isCounters(due, "then", x, -1, 1, 0, -1, -1);
    }

    private static void collisionDraws(Due due) {
        RollCall x = Make.seeds(3, ZERO, ZERO_ONE, ONE);
        x.begin();
        due.is("COLLISION of three", x.split(), 2);
        isCounters(due, "drawn", x, 0, 0, 1);
        int seedOfTheOther = x.tell(2, 5);
        due.is("COLLISION of two", x.split(), 2);
        isCounters(due, "drawn then", x, 0, 1, 2);
        due.is("the other drew nothing", x.tell(2, 5), seedOfTheOther);
        x = Make.seeds(3, 1, 3);
        x.begin();
        x.split();
        due.is("SEED behind a draw", x.tell(0, 5), 1103527590);
        due.is("SEED behind a draw", x.tell(1, 5), -984409216);
    }

    /** TAG 2 has 1, TAG 3 went with 1, TAG 4 is ASLEEP with 1, TAG 5 is a latecomer. */
    private static RollCall withOthers() {
        RollCall x = Make.seeds(4, ZERO, ZERO_ONE, ONE, ONE, ONE);
        x.begin();
        x.split();
        x.act(3, 0);
        x.act(4, 3);
        Make.addAwake(x, 3, 50, 0);
        return x;
    }

    private static void othersGoUp(Due due) {
        RollCall x = withOthers();
        isCounters(due, "ahead of it", x, 0, 0, 1, 1, 1, -1);
        due.is("the caller's count ahead of it", x.count(4), 1);
        due.is("COLLISION", x.split(), 2);
        isCounters(due, "behind it", x, 0, 1, 2, 1, 1, -1);
        due.is("the caller's count behind it", x.count(4), 2);
    }

    private static void aloneIsFound(Due due) {
        RollCall x = Make.seeds(3, ZERO, ONE);
        x.begin();
        x.split();
        due.is("a COLLISION finds nobody", x.count(2), 0);
        due.is("ALONE", x.split(), 1);
        due.is("it is found", x.found(0), 0);
        due.is("it has no counter", x.tell(0, 4), -1);
        due.is("it LISTENS still", x.tell(0, 3), 1);
        due.is("it does not speak any more", x.split(), 1);
        due.is("the other is found", x.found(1), 1);
    }

    private static void othersGoDown(Due due) {
        RollCall x = withOthers();
        x.split();
        due.is("ALONE", x.split(), 1);
        isCounters(due, "behind ALONE", x, -1, 0, 1, 1, 1, -1);
        due.is("the caller's count behind ALONE", x.count(4), 1);
        RollCall quiet = Make.seeds(3, ONE, ONE);
        quiet.begin();
        quiet.split();
        isCounters(due, "ahead of QUIET", quiet, 1, 1);
        due.is("QUIET", quiet.split(), 0);
        isCounters(due, "behind QUIET", quiet, 0, 0);
        due.is("the caller's count behind QUIET", quiet.count(4), 0);
    }

    private static void zeroAtLeast(Due due) {
        RollCall x = Make.seeds(3, 0, 7919, 15838, 23757, 31676);
        x.begin();
        int steps = 0;
        while (steps < 500 && x.split() != -1) {
            steps++;
            for (int tag = 0; tag < 5; tag++) {
                due.is("counter of " + tag, x.tell(tag, 4) >= (x.tell(tag, 6) > 0 ? -1 : 0), true);
            }
        }
        due.is("all are found", x.count(2), 5);
    }

    private static void overBelowZero(Due due) {
        RollCall x = Make.seeds(3, ZERO, ONE);
        x.begin();
        int[] counts = {0, 1, 0, -1};
        int[] tells = {2, 1, 1, -1};
        for (int i = 0; i < 4; i++) {
            due.is("the caller's count ahead of step " + i, x.count(4), counts[i]);
            due.is("step " + i, x.split(), tells[i]);
        }
        due.is("no slot of a step that was none", x.cost(4), 3);
        due.is("over", x.count(4), -1);
    }

    private static void beginTells(Due due) {
        due.is("nobody", new RollCall().begin(), 0);
        RollCall x = new RollCall();
        for (int i = 0; i < 40; i++) {
            Make.addAwake(x, i % 6, i, 0);
        }
        due.is("KINDS 3 and 4 of forty", x.begin(), 13);
        x.act(3, 0);
        x.act(4, 3);
        due.is("two LISTEN no more", x.begin(), 11);
        x.group(-1L, x.name(9));
        due.is("one of the GROUP", x.begin(), 1);
        RollCall all = new RollCall();
        for (int i = 0; i < 40; i++) {
            all.tag(3, i, 0);
        }
        due.is("forty", all.begin(), 40);
    }

    private static void splitTells(Due due) {
        RollCall x = Make.seeds(3, ONE, ONE);
        x.begin();
        due.is("COLLISION", x.split(), 2);
        due.is("QUIET", x.split(), 0);
        due.is("COLLISION", x.split(), 2);
        x.act(0, 0);
        due.is("QUIET", x.split(), 0);
        due.is("ALONE", x.split(), 1);
        due.is("QUIET slots", x.cost(0), 2);
        due.is("ALONE slots", x.cost(1), 1);
        due.is("COLLISION slots", x.cost(2), 2);
    }

    private static void noSplit(Due due) {
        RollCall x = Make.seeds(3, 0);
        due.is("ahead of any", x.split(), -1);
        x.begin();
        x.split();
        due.is("behind its end", x.split(), -1);
        due.is("and again", x.split(), -1);
        due.is("one slot in all", x.cost(4), 1);
        due.is("one was found", x.count(2), 1);
    }
}
