import java.util.Random;

/** Promises 9 to 11: pass, fork, verify. */
public final class BitsTest {
    private static final Due DUE = new Due("BitsTest");

    public static void main(String[] args) {
        noneIsFound();
        oneIsFound();
        aRowOfPasses();
        everyKindOnEitherWire();
        sleepersAndGroups();
        aLatecomerAheadOfTheLastFork();
        aLatecomerBehindTheLastFork();
        theLastForkIsNoForkAnyMore();
        allGoInTheMidstOfARow();
        forkOfAnotherWhat();
        verify();
        verifyLeavesTheRow();
        DUE.end();
    }

    private static RollCall withNumbers(long... numbers) {
        RollCall x = new RollCall();
        for (long number : numbers) {
            x.tag(1, number, 0);
        }
        return x;
    }

    private static void noneIsFound() {
        RollCall x = new RollCall();
        DUE.is("9: none", x.pass(), -1);
        DUE.is("9: in one slot", x.cost(3), 1);
        DUE.is("9: nothing in the row of FOUND", x.count(2), 0);
        DUE.is("10: first one next", x.fork(0), -1);
        DUE.is("10: no passes", x.fork(1), 0);
    }

    private static void oneIsFound() {
        RollCall x = withNumbers(-1L);
        for (int i = 1; i <= 3; i++) {
            DUE.is("9: the only one", x.pass(), 0);
            DUE.is("9: in 193 slots", x.cost(3), 193L * i);
            DUE.is("10: no fork, the row is over", x.fork(0), -1);
            DUE.is("10: no passes", x.fork(1), 0);
            DUE.is("9: in the row of FOUND", x.count(2), i);
        }
        DUE.is("9: other slots cost nothing", x.cost(0) + x.cost(1) + x.cost(2), 0);
    }

    /** The passes of a row find all that LISTEN, those with the lower NAMES first. */
    private static void aRowOfPasses() {
        Random random = new Random(11);
        for (int round = 0; round < 200; round++) {
            RollCall x = new RollCall();
            int size = 2 + random.nextInt(39);
            for (int i = 0; i < size; i++) {
                long number = random.nextLong() & (random.nextBoolean() ? -1L : 0xFFL << random.nextInt(48));
                x.tag(random.nextInt(6), number, 0);
            }
            int listening = x.count(1);
            long before = 0;
            for (int i = 1; i <= listening; i++) {
                long name = x.name(x.pass());
                DUE.is("9: higher than the one before", i == 1 || Long.compareUnsigned(before, name) < 0, true);
                DUE.is("10: passes so far", x.fork(1), i == listening ? 0 : i);
                DUE.is("10: the row is over", x.fork(0) == -1, i == listening);
                before = name;
            }
            DUE.is("9: all slots", x.cost(3), 193L * listening);
            DUE.is("9: all in the row of FOUND", x.count(2), listening);
        }
    }

    private static void everyKindOnEitherWire() {
        RollCall x = new RollCall();
        for (int kind = 0; kind < 6; kind++) {
            x.tag(kind, kind, 0);
        }
        x.act(4, 2);
        for (int wire = 0; wire < 2; wire++) {
            x.wire(wire);
            for (int i = 0; i < 6; i++) {
                DUE.is("9: KIND " + i + " on wire " + wire, x.pass(), i);
            }
        }
        DUE.is("9: a SLEEPER found by bits stays AWAKE", x.tell(4, 2), 1);
        DUE.is("9: no SEED was used", x.tell(4, 5), 0);
        DUE.is("13: alone() has nothing of passes", x.alone(), -1);
    }

    private static void sleepersAndGroups() {
        RollCall x = new RollCall();
        x.tag(4, 0, 0);
        x.tag(1, 1, 0);
        x.tag(1, 2, 0);
        x.tag(1, 3, 0);
        DUE.is("9: the SLEEPER is ASLEEP", x.pass(), 1);
        x.group(0x200, 0x200);
        DUE.is("9: the row goes on in the GROUP", x.pass(), 2);
        DUE.is("10: its LAST FORK", x.fork(0), 55);
        DUE.is("9: the next one", x.pass(), 3);
        DUE.is("10: over", x.fork(0), -1);
    }

    private static void aLatecomerAheadOfTheLastFork() {
        RollCall x = withNumbers(0, 1);
        DUE.is("9: first", x.pass(), 0);
        DUE.is("10: its LAST FORK", x.fork(0), 55);
        x.tag(0, 1L << 55, 0);
        DUE.is("9: ahead of the LAST FORK the way of the NAME", x.pass(), 1);
        DUE.is("10: the latecomer's bit", x.fork(0), 0);
        DUE.is("10: passes", x.fork(1), 2);
        DUE.is("9: the latecomer", x.pass(), 2);
        DUE.is("10: over", x.fork(1), 0);
    }

    /** The way of the NAME found then is 1 at a fork that was none then. */
    private static void aLatecomerBehindTheLastFork() {
        RollCall x = withNumbers(8, 9);
        DUE.is("9: first", x.pass(), 0);
        x.tag(0, 0, 0);
        x.tag(0, 11, 0);
        DUE.is("9: the way of the NAME is 1 ahead of the LAST FORK", x.pass(), 1);
        DUE.is("10: the fork at bit 54", x.fork(0), 54);
        DUE.is("9: the one behind", x.pass(), 3);
        DUE.is("10: over, without the latecomer 0", x.fork(0), -1);
        DUE.is("9: a new row", x.pass(), 2);
        DUE.is("10: bit 52", x.fork(0), 52);
    }

    private static void theLastForkIsNoForkAnyMore() {
        RollCall x = withNumbers(0, 1, 2, 3);
        x.pass();
        x.act(1, 0);
        DUE.is("9: all tell 0 at the LAST FORK", x.pass(), 0);
        DUE.is("10: a LAST FORK ahead", x.fork(0), 54);
        DUE.is("10: two passes", x.fork(1), 2);
        x.act(1, 1);
        DUE.is("9: 1 at the LAST FORK, 0 behind it", x.pass(), 2);
        DUE.is("10: bit 55", x.fork(0), 55);
    }

    private static void allGoInTheMidstOfARow() {
        RollCall x = withNumbers(0, 1);
        x.pass();
        x.group(-1L, -1L);
        DUE.is("9: none", x.pass(), -1);
        DUE.is("9: one slot more", x.cost(3), 194);
        DUE.is("10: the next one is a first one", x.fork(0), -1);
        DUE.is("10: no passes", x.fork(1), 0);
        x.group(0, 0);
        DUE.is("9: a first pass", x.pass(), 0);
        DUE.is("10: one pass", x.fork(1), 1);
    }

    private static void forkOfAnotherWhat() {
        RollCall x = withNumbers(0, 1);
        x.pass();
        int[] whats = {-1, 2, 3, Integer.MIN_VALUE, Integer.MAX_VALUE};
        for (int what : whats) {
            DUE.is("10: another what", x.fork(what), -1);
        }
    }

    private static void verify() {
        RollCall x = withNumbers(1, 2);
        DUE.is("11: a NAME", x.verify(305), true);
        DUE.is("11: 193 slots", x.cost(3), 193);
        DUE.is("11: the last bit is another", x.verify(304), false);
        DUE.is("11: out behind the last bit", x.cost(3), 386);
        DUE.is("11: the first bit is another", x.verify(305 | 1L << 63), false);
        DUE.is("11: 1 and 3 slots", x.cost(3), 390);
        DUE.is("11: the second bit is another", x.verify(305 | 1L << 62), false);
        DUE.is("11: 1 and 6 slots", x.cost(3), 397);
        DUE.is("11: nobody is found by it", x.count(2), 0);
        x.act(0, 0);
        DUE.is("11: it went", x.verify(305), false);
        DUE.is("11: bit 54 of the other one", x.cost(3), 397 + 1 + 3 * 55);
        x.act(1, 0);
        DUE.is("11: nobody at all", x.verify(610), false);
        DUE.is("11: one slot", x.cost(3), 397 + 1 + 3 * 55 + 1);
        DUE.is("11: other slots cost nothing", x.cost(4), x.cost(3));
    }

    private static void verifyLeavesTheRow() {
        RollCall x = withNumbers(0, 1, 2);
        x.pass();
        x.pass();
        x.verify(305);
        x.verify(77);
        DUE.is("11: the LAST FORK is as it was", x.fork(0), 54);
        DUE.is("11: passes are as they were", x.fork(1), 2);
        DUE.is("11: the row goes on", x.pass(), 2);
        x.group(-1L, -1L);
        DUE.is("11: nobody", x.verify(0), false);
        RollCall sleeper = new RollCall();
        sleeper.tag(4, 1, 0);
        DUE.is("11: a SLEEPER that is ASLEEP", sleeper.verify(305), false);
        sleeper.act(0, 2);
        DUE.is("11: a SLEEPER that is AWAKE", sleeper.verify(305), true);
    }
}
