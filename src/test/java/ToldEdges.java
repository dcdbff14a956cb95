import java.util.List;

/** Edges of Terms 6, promises 22 to 24 (found, cost, count), and of the number of calls. */
final class ToldEdges {
    private static final String HERE = "Terms 6";

    private ToldEdges() {
    }

    static List<Edge> all() {
        return List.of(
            Edge.of("What it is", "An object is used for at most 512 calls after it has been made", ToldEdges::calls)
                .brokenBy("            callers += by;\n", "            callers = Math.min(127, callers + by);\n")
                .brokenBy("passSlots += 1 + 3 * bitsTold;", "passSlots = Math.min(65535, passSlots + 1 + 3 * bitsTold);"),
            Edge.of(HERE, "FOUND: the row of TAGS found by any way, in order (again and again, too", ToldEdges::rowOfFound)
                .brokenBy("if (foundSize < MOST_FOUND) {", "if (foundSize < MOST_FOUND && timesFound(tag) == 0) {"),
            Edge.of(HERE, "the first 200", ToldEdges::theFirstTwoHundred)
                .brokenBy("MOST_FOUND = 200", "MOST_FOUND = 201")
                .brokenBy("MOST_FOUND = 200", "MOST_FOUND = 199")
                .brokenBy("if (foundSize < MOST_FOUND) {", "if (foundSize == MOST_FOUND) {\n                foundTags[MOST_FOUND - 1] = tag;\n            } else {"),
            Edge.of(HERE, "A SLEEPER that is found by counters or in a frame is ASLEEP.", ToldEdges::foundSleepers)
                .brokenBy("        now.tags.tire(tag);\n", "")
                .brokenBy("            findAndTire(now.aloneTag);\n", "            now.tally.addFound(now.aloneTag);\n")
                .brokenBy("                findAndTire(firstOf(audible));\n", "                now.tally.addFound(firstOf(audible));\n")
                .brokenBy("            now.tally.addFound(now.aloneTag);\n", "            findAndTire(now.aloneTag);\n")
                .brokenBy("        now.tally.addFound(tag);\n        return tag;", "        findAndTire(tag);\n        return tag;")
                .brokenBy("awake &= ~(setOf(tag) & ofKind[SLEEPER]);", "awake &= ~setOf(tag);"),
            Edge.of(HERE, "COST: slots by kinds; those of passes are of a kind of their own.", ToldEdges::slotsByKinds)
                .brokenBy("passSlots += 1 + 3 * bitsTold;", "passSlots += 1 + 3 * bitsTold;\n            quietSlots++;")
                .brokenBy("            now.tally.addSlot(heard);\n            now.frames.note(heard);", "            now.frames.note(heard);"),

            Edge.of("Promise 22", "The k-th TAG, from 0 on, in the row of FOUND", ToldEdges::found)
                .brokenBy("k < foundSize ? foundTags[k] : NONE;", "k < foundSize ? foundTags[foundSize - 1 - k] : NONE;")
                .brokenBy("return k >= 0 && k < foundSize", "return k > 0 && k < foundSize"),
            Edge.of("Promise 22", "NONE if there is none such", ToldEdges::foundOfNone)
                .brokenBy("return k >= 0 && k < foundSize", "return k >= 0 && k < MOST_FOUND")
                .brokenBy("return k >= 0 && k < foundSize", "return k < foundSize"),

            Edge.of("Promise 23", "COST, what 0: QUIET", due -> costOf(due, 0))
                .brokenBy("return now.tally.quietSlots;", "return now.frames.quiets;"),
            Edge.of("Promise 23", "1: ALONE", due -> costOf(due, 1))
                .brokenBy("return now.tally.aloneSlots;", "return now.tally.foundSize;"),
            Edge.of("Promise 23", "2: COLLISION slots (of questions, counters, frames)", due -> costOf(due, 2))
                .brokenBy("return now.tally.collisionSlots;", "return now.frames.collisions;"),
            Edge.of("Promise 23", "3: slots of passes and verify()", due -> costOf(due, 3))
                .brokenBy("in = isOneAt(name, bit) ? ones : in & ~ones;\n        }\n        now.tally.addPassSlots(bitsTold);",
                    "in = isOneAt(name, bit) ? ones : in & ~ones;\n        }"),
            Edge.of("Promise 23", "4: all", due -> costOf(due, 4))
                .brokenBy("return quietSlots + aloneSlots + collisionSlots + passSlots;", "return quietSlots + aloneSlots + collisionSlots;")
                .brokenBy("return quietSlots + aloneSlots + collisionSlots + passSlots;", "return aloneSlots + collisionSlots + passSlots;"),
            Edge.of("Promise 23", "NONE for another what.", ToldEdges::costOfAnotherWhat)
                .brokenBy("return now.tally.allSlots();\n            default:\n                return NONE;",
                    "return now.tally.allSlots();\n            default:\n                return 0;"),

            Edge.of("Promise 24", "How many: 0 TAGS", ToldEdges::countTags)
                .brokenBy("return now.tags.size;", "return Long.bitCount(now.tags.there);"),
            Edge.of("Promise 24", "1 that LISTEN", ToldEdges::countListeners)
                .brokenBy("case 1:\n                return Long.bitCount(now.tags.listening());", "case 1:\n                return Long.bitCount(now.tags.asked());")
                .brokenBy("case 1:\n                return Long.bitCount(now.tags.listening());", "case 1:\n                return Long.bitCount(now.tags.there);"),
            Edge.of("Promise 24", "2 in the row of FOUND (200 at most)", ToldEdges::countFound)
                .brokenBy("MOST_FOUND = 200", "MOST_FOUND = 201")
                .brokenBy("MOST_FOUND = 200", "MOST_FOUND = 199"),
            Edge.of("Promise 24", "3 rows on the pile of the DESCENT", ToldEdges::countRows)
                .brokenBy("return now.pile.size;", "return now.pile.topLength();"),
            Edge.of("Promise 24", "4 the caller's count of the SPLIT (NONE if none is under way)", ToldEdges::countOfTheCaller)
                .brokenBy("now.counters.callers : NONE;", "now.counters.callers : 0;")
                .brokenBy("return now.counters.isUnderWay() ? now.counters.callers : NONE;", "return now.counters.callers > 0 ? now.counters.callers : NONE;"),
            Edge.of("Promise 24", "NONE for another what.", ToldEdges::countOfAnotherWhat)
                .brokenBy("now.counters.callers : NONE;\n            default:\n                return NONE;",
                    "now.counters.callers : NONE;\n            default:\n                return 0;"));
    }

    /** What grows with each call, up to the last one that is promised. */
    private static void calls(Due due) {
        RollCall passes = Make.tags(1, 0, 1);
        for (int i = 0; i < 507; i++) {
            due.is("pass " + i, passes.pass(), i % 2);
        }
        due.is("slots of passes, at call 512", passes.cost(4), 507 * 193);
        RollCall frames = new RollCall();
        for (int i = 0; i < 511; i++) {
            frames.frame(64);
        }
        due.is("slots of frames, at call 512", frames.cost(4), 511 * 64);
        callsOfCounters(due);
    }

    /** Two of one SEED collide for ever; a third one, that drew 1 at first, goes up with the caller. */
    private static void callsOfCounters(Due due) {
        RollCall x = Make.seeds(3, 0, 0, Make.seedThatDraws(2, 1));
        x.begin();
        for (int i = 0; i < 500; i++) {
            x.split();
        }
        int up = x.cost(2) - x.cost(0);
        due.is("far up", up > 130, true);
        due.is("the caller's count", x.count(4), up);
        due.is("the third one's counter, at call 512", x.tell(2, 4), up);
    }

    private static void rowOfFound(Due due) {
        RollCall x = Make.seeds(3, 0, Make.seedThatDraws(2, 1));
        x.pass();
        x.pass();
        x.pass();
        x.act(0, 0);
        x.descend();
        x.step();
        x.begin();
        x.split();
        x.frame(5);
        x.act(0, 1);
        x.frame(5);
        int[] tags = {0, 1, 0, 1, 1, 1, 0};
        for (int k = 0; k < tags.length; k++) {
            due.is("found(" + k + ")", x.found(k), tags[k]);
        }
        due.is("seven in all", x.count(2), 7);
        due.is("TAG 1", x.tell(1, 6), 4);
        x.ask(0, 56);
        x.verify(0);
        due.is("questions and verify() find nobody", x.count(2), 7);
    }

    private static RollCall withFound(int times) {
        RollCall x = Make.tags(4, 0);
        for (int i = 0; i < times; i++) {
            x.pass();
        }
        x.act(0, 0);
        Make.addAwake(x, 4, 1, 0);
        Make.addAwake(x, 4, 2, 10);
        return x;
    }

    private static void theFirstTwoHundred(Due due) {
        RollCall x = withFound(199);
        due.is("two are found in a frame", x.frame(64), 2);
        due.is("the 200th is the first of them", x.found(199), 1);
        due.is("there is no 201st", x.found(200), -1);
        due.is("how often", x.tell(1, 6), 1);
        due.is("beyond the row", x.tell(2, 6), 0);
        RollCall full = withFound(200);
        full.pass();
        full.act(2, 0);
        full.descend();
        full.step();
        full.begin();
        full.split();
        full.act(1, 2);
        full.frame(1);
        due.is("the last one", full.found(199), 0);
        due.is("by no way there is a 201st", full.found(200), -1);
        due.is("how often", full.tell(1, 6), 0);
        due.is("ASLEEP all the same", full.tell(1, 2), 0);
        full.act(1, 2);
        due.is("found in a frame all the same", full.frame(1), 0);
    }

    private static void foundSleepers(Due due) {
        for (int kind = 3; kind <= 4; kind++) {
            RollCall x = Make.tags(kind, 0);
            x.pass();
            due.is("by bits", x.tell(0, 2), 1);
            x.descend();
            x.step();
            due.is("by beginnings", x.tell(0, 2), 1);
            x.ask(0, 0);
            x.verify(0);
            due.is("by ask() and verify()", x.tell(0, 2), 1);
            x.begin();
            x.split();
            due.is("by counters, KIND " + kind, x.tell(0, 2), kind == 4 ? 0 : 1);
            x.act(0, 2);
            x.frame(1);
            due.is("in a frame, KIND " + kind, x.tell(0, 2), kind == 4 ? 0 : 1);
            due.is("THERE", x.tell(0, 1), 1);
        }
        RollCall two = Make.seeds(4, 0, 0);
        two.frame(1);
        two.begin();
        two.split();
        due.is("in COLLISIONS they stay AWAKE", two.count(1), 2);
    }

    private static void slotsByKinds(Due due) {
        RollCall x = Make.seeds(3, 0, Make.seedThatDraws(2, 1));
        x.pass();
        due.is("a pass, QUIET, ALONE and COLLISION", x.cost(0) + x.cost(1) + x.cost(2), 0);
        due.is("a pass", x.cost(3), 193);
        x.ask(0, 0);
        x.descend();
        x.step();
        x.begin();
        x.split();
        x.frame(1);
        due.is("COLLISIONS of four ways", x.cost(2), 4);
        x.ask(0, 56);
        x.split();
        x.act(1, 0);
        x.descend();
        x.step();
        x.frame(3);
        due.is("ALONE of four ways", x.cost(1), 4);
        due.is("QUIET of the frame", x.cost(0), 2);
        due.is("passes as before", x.cost(3), 193);
    }

    private static void found(Due due) {
        RollCall x = Make.tags(1, 9, 4, 6);
        x.pass();
        x.pass();
        x.pass();
        due.is("found(0)", x.found(0), 1);
        due.is("found(1)", x.found(1), 2);
        due.is("found(2)", x.found(2), 0);
        x.act(1, 0);
        due.is("of one that went", x.found(0), 1);
    }

    private static void foundOfNone(Due due) {
        due.is("found(0) of a new object", new RollCall().found(0), -1);
        RollCall x = Make.tags(1, 9);
        x.pass();
        for (int k : Make.intsBeyond(0, 0)) {
            due.is("found(" + k + ")", x.found(k), -1);
        }
    }

    private static void costOf(Due due, int what) {
        RollCall x = Make.seeds(3, 0, Make.seedThatDraws(2, 1));
        due.is("of a new object", x.cost(what), 0);
        x.pass();
        x.pass();
        x.verify(-1L);
        x.ask(0, 0);
        x.ask(-1L, 1);
        x.ask(0, 56);
        x.descend();
        x.step();
        x.begin();
        x.split();
        x.split();
        x.frame(1);
        x.act(1, 0);
        x.frame(8);
        x.frame(2);
        int[] slots = {1 + 7 + 2, 1 + 1 + 1, 1 + 1 + 1 + 1, 386 + 4, 10 + 3 + 4 + 390};
        due.is("cost(" + what + ")", x.cost(what), slots[what]);
    }

    private static void costOfAnotherWhat(Due due) {
        RollCall x = Make.tags(1, 0);
        x.pass();
        for (int what : Make.intsBeyond(0, 4)) {
            due.is("cost(" + what + ")", x.cost(what), -1);
        }
    }

    private static void countTags(Due due) {
        RollCall x = new RollCall();
        due.is("none", x.count(0), 0);
        for (int i = 1; i <= 40; i++) {
            x.tag(4, i, 0);
            x.act(i - 1, 0);
            due.is("ASLEEP ones that went", x.count(0), i);
        }
        x.tag(4, 50, 0);
        due.is("40 at most", x.count(0), 40);
    }

    private static void countListeners(Due due) {
        RollCall x = Make.tags(0, 0, 1);
        due.is("none", new RollCall().count(1), 0);
        due.is("BIT ones LISTEN", x.count(1), 2);
        x.act(0, 0);
        due.is("one went", x.count(1), 1);
        x.tag(4, 2, 0);
        due.is("one that is ASLEEP", x.count(1), 1);
        x.act(2, 2);
        due.is("it is AWAKE", x.count(1), 2);
        x.group(-1L, 610);
        due.is("one of the GROUP", x.count(1), 1);
    }

    private static void countFound(Due due) {
        RollCall x = Make.tags(1, 0);
        for (int i = 0; i < 203; i++) {
            due.is("behind " + i, x.count(2), Math.min(i, 200));
            x.pass();
        }
    }

    private static void countRows(Due due) {
        RollCall x = Make.tags(1, 0, 1, 1L << 55);
        due.is("none is under way", x.count(3), 0);
        x.descend();
        due.is("the empty row", x.count(3), 1);
        for (int i = 2; i < 58; i++) {
            x.step();
            due.is("behind step " + (i - 1), x.count(3), i);
        }
        for (int i = 56; i >= 0; i--) {
            x.step();
            due.is("one less", x.count(3), i);
        }
    }

    private static void countOfTheCaller(Due due) {
        RollCall x = Make.seeds(3, 0, Make.seedThatDraws(2, 1));
        due.is("none is under way", x.count(4), -1);
        x.begin();
        due.is("at its begin", x.count(4), 0);
        x.split();
        due.is("COLLISION", x.count(4), 1);
        x.split();
        due.is("ALONE", x.count(4), 0);
        x.split();
        due.is("over", x.count(4), -1);
        x.begin();
        due.is("once more", x.count(4), 0);
    }

    private static void countOfAnotherWhat(Due due) {
        RollCall x = Make.tags(1, 0);
        for (int what : Make.intsBeyond(0, 4)) {
            due.is("count(" + what + ")", x.count(what), -1);
        }
    }
}
