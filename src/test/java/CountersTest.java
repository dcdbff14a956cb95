/** Promises 17 and 18: begin, split. */
public final class CountersTest {
    private static final Due DUE = new Due("CountersTest");

    public static void main(String[] args) {
        beginOfKinds();
        beginOfNobody();
        beginOnceMore();
        aStepDraws();
        othersGoUpAndDown();
        whoDoesNotListenIsLeftOut();
        aLatecomerHasNone();
        aSleeperFallsAsleep();
        counterOfOneThatComesBackTooLate();
        allAreFound();
        DUE.end();
    }

    private static RollCall withSeeds(int kind, int... seeds) {
        RollCall x = new RollCall();
        for (int i = 0; i < seeds.length; i++) {
            x.tag(kind, i, seeds[i]);
        }
        return x;
    }

    private static void isCounters(RollCall x, String where, int... due) {
        for (int tag = 0; tag < due.length; tag++) {
            DUE.is("18: counter of " + tag + " " + where, x.tell(tag, 4), due[tag]);
        }
    }

    private static void beginOfKinds() {
        RollCall x = new RollCall();
        for (int kind = 0; kind < 6; kind++) {
            x.tag(kind, kind, 0);
        }
        DUE.is("17: SPLIT alone", x.begin(), 1);
        isCounters(x, "at first", -1, -1, -1, 0, -1, -1);
        x.act(4, 2);
        DUE.is("17: and a SLEEPER that is AWAKE", x.begin(), 2);
        isCounters(x, "then", -1, -1, -1, 0, 0, -1);
        DUE.is("24: the caller's count", x.count(4), 0);
        DUE.is("17: it takes no slot", x.cost(4), 0);
        DUE.is("18: others do not speak", x.split(), 2);
    }

    private static void beginOfNobody() {
        RollCall x = new RollCall();
        DUE.is("17: nobody", x.begin(), 0);
        DUE.is("24: under way", x.count(4), 0);
        DUE.is("18: QUIET", x.split(), 0);
        DUE.is("24: over", x.count(4), -1);
        DUE.is("18: none under way", x.split(), -1);
        DUE.is("23: one slot", x.cost(4), 1);
    }

    private static void beginOnceMore() {
        RollCall x = withSeeds(3, 0, 3, 0);
        x.begin();
        x.split();
        isCounters(x, "behind a step", 0, 1, 0);
        x.act(0, 0);
        DUE.is("17: one went", x.begin(), 2);
        isCounters(x, "anew", -1, 0, 0);
        DUE.is("24: the caller's count", x.count(4), 0);
        DUE.is("6: the SEED is as it was drawn", x.tell(0, 5), 12345);
    }

    private static void aStepDraws() {
        RollCall x = withSeeds(3, 0, 1, 3, 4, 11, -1, 10);
        x.begin();
        DUE.is("18: COLLISION", x.split(), 2);
        isCounters(x, "drawn", 0, 0, 1, 1, 1, 1, 1);
        DUE.is("18: SEED", x.tell(0, 5), 12345);
        DUE.is("18: SEED", x.tell(1, 5), 1103527590);
        DUE.is("18: SEED", x.tell(2, 5), -984409216);
        DUE.is("18: SEED", x.tell(5, 5), -1103502900);
        DUE.is("24: the caller's count", x.count(4), 1);
        DUE.is("13: nobody ALONE", x.alone(), -1);
        DUE.is("24: nobody found", x.count(2), 0);
    }

    private static void othersGoUpAndDown() {
        RollCall x = withSeeds(3, 0, 0, 3);
        x.begin();
        DUE.is("18: COLLISION", x.split(), 2);
        isCounters(x, "one", 0, 0, 1);
        DUE.is("18: COLLISION of two", x.split(), 2);
        DUE.is("18: the other one goes up", x.tell(2, 4), 2);
        DUE.is("18: without a draw", x.tell(2, 5), -984409216);
        x.act(0, 0);
        int speakers = x.tell(1, 4) == 0 ? 1 : 0;
        DUE.is("18: ALONE or QUIET", x.split(), speakers);
        DUE.is("18: the other one goes down", x.tell(2, 4), 1);
        DUE.is("24: the caller's count too", x.count(4), 1);
    }

    private static void whoDoesNotListenIsLeftOut() {
        RollCall x = withSeeds(3, 3, 0, 0);
        x.begin();
        x.split();
        isCounters(x, "drawn", 1, 0, 0);
        x.group(0x200, 0);
        DUE.is("18: one beyond the GROUP", x.split(), 1);
        DUE.is("13: the other", x.alone(), 1);
        isCounters(x, "then", 0, -1, 0);
        x.group(0x200, 0x200);
        DUE.is("18: the one of the other GROUP", x.split(), 1);
        DUE.is("13: it", x.alone(), 2);
        isCounters(x, "at last", 0, -1, -1);
        DUE.is("24: over", x.count(4), -1);
        DUE.is("18: none under way", x.split(), -1);
        DUE.is("18: one keeps its counter", x.tell(0, 4), 0);
    }

    private static void aLatecomerHasNone() {
        RollCall x = withSeeds(3, 0, 0);
        x.tag(4, 50, 0);
        x.begin();
        x.act(2, 2);
        x.tag(3, 51, 0);
        x.split();
        isCounters(x, "latecomers", 0, 0, -1, -1);
        DUE.is("6: it drew nothing", x.tell(3, 5), 0);
        x.act(0, 0);
        DUE.is("18: they do not speak", x.split(), 1);
        isCounters(x, "found", 0, -1, -1, -1);
    }

    private static void aSleeperFallsAsleep() {
        RollCall x = withSeeds(4, 0);
        x.tag(3, 9, 0);
        x.act(0, 2);
        x.act(1, 0);
        x.begin();
        DUE.is("18: ALONE", x.split(), 1);
        DUE.is("6: ASLEEP", x.tell(0, 2), 0);
        DUE.is("13: it was ALONE", x.alone(), 0);
        DUE.is("22: found", x.found(0), 0);
        x.act(1, 1);
        x.begin();
        x.split();
        DUE.is("6: one that is no SLEEPER stays AWAKE", x.tell(1, 2), 1);
    }

    private static void counterOfOneThatComesBackTooLate() {
        RollCall x = withSeeds(3, 0, 0);
        x.begin();
        x.act(0, 0);
        x.split();
        x.act(0, 1);
        DUE.is("18: over", x.split(), -1);
        DUE.is("6: it has its counter", x.tell(0, 4), 0);
        DUE.is("6: it LISTENS", x.tell(0, 3), 1);
        x.begin();
        DUE.is("18: both speak", x.split(), 2);
    }

    private static void allAreFound() {
        RollCall x = new RollCall();
        for (int i = 0; i < 20; i++) {
            x.tag(i % 2 == 0 ? 3 : 4, i, i * 7919);
            x.act(i, 2);
        }
        DUE.is("17: twenty", x.begin(), 20);
        int slots = 0;
        while (slots < 5000 && x.split() != -1) {
            slots++;
        }
        DUE.is("18: all are found", x.count(2), 20);
        DUE.is("18: those that are no SLEEPERS listen", x.count(1), 10);
        for (int i = 0; i < 20; i++) {
            DUE.is("6: once each", x.tell(i, 6), 1);
            DUE.is("6: no counter any more", x.tell(i, 4), -1);
        }
        DUE.is("23: each slot costs", x.cost(4), slots);
        DUE.is("23: one less than the others are COLLISIONS", x.cost(2), (slots - 1) / 2);
    }
}
