/** Promises 12 to 16: ask, alone, descend, step, nodes. */
public final class BeginningsTest {
    private static final Due DUE = new Due("BeginningsTest");

    public static void main(String[] args) {
        ask();
        askOfKinds();
        askInAir();
        askIsRefused();
        aloneTellsOfTheLatestSlot();
        aloneHasNothingOfFrames();
        descent();
        descentToTheLastBits();
        descendBeginsAnew();
        descentWhileTheWireChanges();
        nodes();
        nodesInAir();
        nodesChangesNothing();
        nodesOfForty();
        DUE.end();
    }

    private static RollCall withNumbers(int kind, long... numbers) {
        RollCall x = new RollCall();
        for (long number : numbers) {
            x.tag(kind, number, 0);
        }
        return x;
    }

    private static void ask() {
        RollCall x = withNumbers(1, 0, 1, 1L << 55);
        DUE.is("12: all", x.ask(-1L, 0), 2);
        DUE.is("12: the first bit 1", x.ask(-1L, 1), 1);
        DUE.is("13: who", x.alone(), 2);
        DUE.is("12: the first bit 0", x.ask(Long.MAX_VALUE, 1), 2);
        DUE.is("13: nobody", x.alone(), -1);
        DUE.is("12: bits behind the n first count for nothing", x.ask(0x1FF, 55), 2);
        DUE.is("12: two ones", x.ask(-1L, 2), 0);
        DUE.is("12: a whole NAME", x.ask(305, 64), 1);
        DUE.is("13: who", x.alone(), 1);
        DUE.is("12: 63 bits of it", x.ask(304, 63), 1);
        DUE.is("12: another whole NAME", x.ask(304, 64), 0);
        DUE.is("23: QUIET", x.cost(0), 2);
        DUE.is("23: ALONE", x.cost(1), 3);
        DUE.is("23: COLLISION", x.cost(2), 3);
        DUE.is("12: a question finds nobody", x.count(2), 0);
        RollCall one = withNumbers(1, 1);
        for (int bit = 0; bit < 64; bit++) {
            long other = 305 ^ 1L << (63 - bit);
            DUE.is("12: alike ahead of bit " + bit, one.ask(other, bit), 1);
            DUE.is("12: another bit " + bit, one.ask(other, bit + 1), 0);
            DUE.is("12: another bit " + bit + ", all asked", one.ask(other, 64), 0);
        }
    }

    private static void askOfKinds() {
        for (int kind = 0; kind < 6; kind++) {
            RollCall x = withNumbers(kind, 5);
            DUE.is("12: KIND " + kind, x.ask(0, 0), kind == 0 || kind == 4 ? 0 : 1);
            x.act(0, 2);
            DUE.is("12: KIND " + kind + ", AWAKE", x.ask(0, 0), kind == 0 ? 0 : 1);
            x.group(-1L, 0);
            DUE.is("12: KIND " + kind + ", not in the GROUP", x.ask(0, 0), 0);
        }
    }

    private static void askInAir() {
        RollCall x = withNumbers(5, 0, 1, 2);
        x.wire(1);
        DUE.is("12: weak ones alone collide", x.ask(0, 0), 2);
        x.tag(1, 3, 0);
        DUE.is("12: one that is not WEAK", x.ask(0, 0), 1);
        DUE.is("13: it is that one", x.alone(), 3);
        x.tag(3, 4, 0);
        DUE.is("12: two that are not WEAK", x.ask(0, 0), 2);
        DUE.is("12: a beginning that one of them has", x.ask(0, 54), 1);
        DUE.is("13: that one", x.alone(), 3);
        DUE.is("12: a beginning of weak ones", x.ask(0, 55), 2);
        DUE.is("12: a weak one alone", x.ask(0, 56), 1);
        DUE.is("13: it is heard", x.alone(), 0);
        x.wire(0);
        x.act(4, 0);
        DUE.is("12: on COPPER all collide", x.ask(0, 0), 2);
    }

    private static void askIsRefused() {
        RollCall x = withNumbers(1, 0);
        x.ask(0, 0);
        int[] ns = {-1, 65, 66, Integer.MIN_VALUE, Integer.MAX_VALUE};
        for (int n : ns) {
            DUE.is("12: n " + n, x.ask(0, n), -1);
        }
        DUE.is("12: refused ones cost nothing", x.cost(4), 1);
        DUE.is("13: nor do they change who was ALONE", x.alone(), 0);
    }

    private static void aloneTellsOfTheLatestSlot() {
        RollCall x = withNumbers(3, 0, 1);
        x.ask(0, 56);
        DUE.is("13: of ask()", x.alone(), 0);
        x.descend();
        x.begin();
        x.frames();
        x.verify(0);
        DUE.is("13: no slot of theirs since", x.alone(), 0);
        x.step();
        DUE.is("13: of step()", x.alone(), -1);
        x.act(0, 0);
        x.split();
        DUE.is("13: of split()", x.alone(), 1);
        x.split();
        DUE.is("13: none is under way: as it was", x.alone(), 1);
        x.act(1, 0);
        DUE.is("13: of the slot, not of now", x.alone(), 1);
        x.ask(0, 0);
        DUE.is("13: QUIET", x.alone(), -1);
    }

    private static void aloneHasNothingOfFrames() {
        RollCall x = withNumbers(2, 0);
        DUE.is("20: found", x.frame(1), 1);
        DUE.is("13: frames are no slots of alone()", x.alone(), -1);
        x.ask(0, 0);
        x.frame(1);
        x.pass();
        DUE.is("13: as ask() had it", x.alone(), 0);
    }

    private static void descent() {
        RollCall x = withNumbers(1, 0, 1L << 55, 3L << 54);
        x.tag(0, 1L << 54, 0);
        DUE.is("15: none is under way", x.step(), -1);
        x.descend();
        DUE.is("24: the empty row", x.count(3), 1);
        DUE.is("15: all", x.step(), 2);
        DUE.is("24: two rows", x.count(3), 2);
        DUE.is("15: the row 0 is first", x.step(), 1);
        DUE.is("13: who", x.alone(), 0);
        DUE.is("15: the row 1", x.step(), 2);
        DUE.is("24: two rows behind it", x.count(3), 2);
        DUE.is("15: the row 10", x.step(), 1);
        DUE.is("15: the row 11", x.step(), 1);
        DUE.is("24: the pile is empty", x.count(3), 0);
        DUE.is("15: over", x.step(), -1);
        for (int i = 0; i < 3; i++) {
            DUE.is("15: found in order", x.found(i), i);
        }
        DUE.is("24: three found", x.count(2), 3);
        DUE.is("23: ALONE", x.cost(1), 3);
        DUE.is("23: COLLISION", x.cost(2), 2);
        DUE.is("23: QUIET", x.cost(0), 0);
    }

    /** No two NAMES share more than 55 bits: their SUMS follow from the 56 ahead. */
    private static void descentToTheLastBits() {
        RollCall x = withNumbers(4, 0, 1);
        x.act(0, 2);
        x.act(1, 2);
        x.descend();
        int steps = 0;
        int most = 0;
        while (steps < 1000 && x.step() != -1) {
            steps++;
            most = Math.max(most, x.count(3));
        }
        DUE.is("15: 56 collisions and their rows", steps, 113);
        DUE.is("24: the highest pile", most, 57);
        DUE.is("15: the lower one first", x.found(0), 0);
        DUE.is("15: then the other", x.found(1), 1);
        DUE.is("15: SLEEPERS found by questions stay AWAKE", x.tell(0, 2) + x.tell(1, 2), 2);
    }

    private static void descendBeginsAnew() {
        RollCall x = withNumbers(1, 0, 1);
        x.descend();
        x.step();
        x.step();
        DUE.is("24: three rows", x.count(3), 3);
        x.descend();
        DUE.is("14: the empty row alone", x.count(3), 1);
        DUE.is("14: nothing was asked", x.cost(4), 2);
        x.act(0, 0);
        DUE.is("15: the empty row is asked", x.step(), 1);
        DUE.is("13: who", x.alone(), 1);
        x.act(1, 0);
        x.descend();
        DUE.is("15: nobody", x.step(), 0);
        DUE.is("15: over", x.step(), -1);
        DUE.is("15: refused ones cost nothing", x.cost(4), 4);
    }

    private static void descentWhileTheWireChanges() {
        RollCall x = withNumbers(5, 0, 1L << 55);
        x.tag(1, 1L << 54, 0);
        x.descend();
        DUE.is("15: COPPER", x.step(), 2);
        x.wire(1);
        DUE.is("15: AIR, the row 0", x.step(), 1);
        DUE.is("13: the strong one", x.alone(), 2);
        DUE.is("15: the row 1", x.step(), 1);
        DUE.is("15: over, one was never heard", x.step(), -1);
        DUE.is("6: it", x.tell(0, 6), 0);
    }

    private static void nodes() {
        RollCall x = new RollCall();
        DUE.is("16: nobody", x.nodes(), 1);
        x.tag(0, 9, 0);
        DUE.is("16: a BIT one", x.nodes(), 1);
        x.tag(1, 0, 0);
        DUE.is("16: one", x.nodes(), 1);
        x.tag(1, 1L << 55, 0);
        DUE.is("16: two, apart at bit 0", x.nodes(), 3);
        x.tag(1, 3L << 54, 0);
        DUE.is("16: three", x.nodes(), 5);
        x.tag(1, 1, 0);
        DUE.is("16: two apart at bit 55", x.nodes(), 5 + 2 * 55);
        x.group(1L << 63, 1L << 63);
        DUE.is("16: both of the GROUP begin with 1", x.nodes(), 5);
        x.act(2, 0);
        DUE.is("16: one went", x.nodes(), 1);
    }

    private static void nodesInAir() {
        RollCall x = withNumbers(5, 0, 1, 1L << 55);
        x.tag(2, 2, 0);
        DUE.is("16: COPPER", x.nodes(), 3 + 2 * 53 + 4);
        x.wire(1);
        DUE.is("16: AIR, one strong voice", x.nodes(), 1);
        x.tag(2, 3L << 54, 0);
        DUE.is("16: AIR, two strong ones apart at bit 0", x.nodes(), 3);
        x.act(3, 0);
        DUE.is("16: AIR, the other one is the only strong one", x.nodes(), 1);
        x.act(4, 0);
        DUE.is("16: AIR, weak ones alone", x.nodes(), 1 + 2 * 56);
    }

    private static void nodesChangesNothing() {
        RollCall x = withNumbers(1, 0, 1);
        x.ask(305, 64);
        x.descend();
        x.step();
        DUE.is("16: questions", x.nodes(), 113);
        DUE.is("16: once more", x.nodes(), 113);
        DUE.is("16: no slots", x.cost(4), 2);
        DUE.is("16: the pile", x.count(3), 2);
        DUE.is("16: nobody is found", x.count(2), 0);
        x.ask(305, 64);
        x.nodes();
        DUE.is("16: who was ALONE", x.alone(), 1);
    }

    /** Twenty pairs that part at bit 55: as many crowds at once as there can be. */
    private static void nodesOfForty() {
        RollCall x = new RollCall();
        for (int pair = 0; pair < 20; pair++) {
            x.tag(1, (long) pair << 40, 0);
            x.tag(1, (long) pair << 40 | 1, 0);
        }
        int asked = x.nodes();
        x.descend();
        int steps = 0;
        while (steps < 10000 && x.step() != -1) {
            steps++;
        }
        DUE.is("16: as many as a DESCENT asks", asked, steps);
        DUE.is("15: all are found", x.count(2), 40);
        DUE.is("23: all slots", x.cost(4), steps);
    }
}
