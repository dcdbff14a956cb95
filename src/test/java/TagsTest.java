/** Promises 1 to 8: a new object, wire, tag, name, isName, tell, act, group. */
public final class TagsTest {
    private static final Due DUE = new Due("TagsTest");
    private static final long ALL_ONES = 0xFFFFFFFFFFFFFFL;

    public static void main(String[] args) {
        newObject();
        wire();
        tag();
        tagsAreFortyAtMost();
        name();
        isName();
        tell();
        tellOfNone();
        act();
        actAndSleepers();
        aTagThatWentKeepsItsCounter();
        group();
        groupAndLatecomers();
        DUE.end();
    }

    private static void newObject() {
        RollCall x = new RollCall();
        DUE.is("NONE", RollCall.NONE, -1);
        DUE.is("1: no TAGS", x.count(0), 0);
        DUE.is("1: none LISTENS", x.count(1), 0);
        DUE.is("1: nothing found", x.count(2), 0);
        DUE.is("1: no pile", x.count(3), 0);
        DUE.is("1: no SPLIT", x.count(4), -1);
        DUE.is("1: fork(0)", x.fork(0), -1);
        DUE.is("1: fork(1)", x.fork(1), 0);
        DUE.is("1: alone()", x.alone(), -1);
        DUE.is("1: step()", x.step(), -1);
        DUE.is("1: split()", x.split(), -1);
        for (int k = 0; k < 4; k++) {
            DUE.is("1: no image " + k, x.again(k), false);
            DUE.is("1: heard " + k, x.heard(k), 0);
        }
        for (int what = 0; what <= 4; what++) {
            DUE.is("1: cost " + what, x.cost(what), 0);
        }
        x.tag(5, 1, 0);
        x.tag(1, 2, 0);
        DUE.is("1: a GROUP of all", x.count(1), 2);
        DUE.is("1: of COPPER, a weak voice collides", x.ask(0, 0), 2);
    }

    private static void wire() {
        RollCall x = new RollCall();
        x.tag(5, 1, 0);
        x.tag(2, 2, 0);
        DUE.is("2: wire(1)", x.wire(1), true);
        DUE.is("2: AIR", x.ask(0, 0), 1);
        DUE.is("2: wire(2)", x.wire(2), false);
        DUE.is("2: wire(-1)", x.wire(-1), false);
        DUE.is("2: wire(max)", x.wire(Integer.MAX_VALUE), false);
        DUE.is("2: still AIR", x.ask(0, 0), 1);
        DUE.is("2: wire(0)", x.wire(0), true);
        DUE.is("2: COPPER", x.ask(0, 0), 2);
        DUE.is("2: the same kind once more", x.wire(0), true);
    }

    private static void tag() {
        RollCall x = new RollCall();
        DUE.is("3: the first", x.tag(0, 7, 3), 0);
        DUE.is("3: KIND 6", x.tag(6, 8, 0), -1);
        DUE.is("3: KIND -1", x.tag(-1, 8, 0), -1);
        DUE.is("3: KIND min", x.tag(Integer.MIN_VALUE, 8, 0), -1);
        DUE.is("3: that NAME", x.tag(1, 7, 4), -1);
        DUE.is("3: that NAME by its lowest 56 bits", x.tag(1, 7 | 0x2AL << 56, 4), -1);
        DUE.is("3: refused ones count for nothing", x.count(0), 1);
        DUE.is("3: its KIND is the first one's", x.tell(0, 0), 0);
        DUE.is("3: its SEED is the first one's", x.tell(0, 5), 3);
        x.act(0, 0);
        DUE.is("3: one that went has its NAME still", x.tag(2, 7, 0), -1);
        DUE.is("3: the highest 8 bits count for nothing", x.tag(5, -1L, 0), 1);
        DUE.is("3: 56 ones", x.tag(5, ALL_ONES, 0), -1);
        DUE.is("3: NAME of 56 ones", x.name(1), -216L);
    }

    private static void tagsAreFortyAtMost() {
        RollCall x = new RollCall();
        for (int i = 0; i < 40; i++) {
            DUE.is("3: tag " + i, x.tag(i % 6, 1000 - i, i), i);
        }
        DUE.is("3: a 41st", x.tag(1, 5, 0), -1);
        DUE.is("3: 40 of them", x.count(0), 40);
        DUE.is("3: the last one's SEED", x.tell(39, 5), 39);
        DUE.is("4: none is 40", x.name(40), 0);
        DUE.is("4: the last one's NAME", x.name(39) >>> 8, 961);
    }

    private static void name() {
        RollCall x = new RollCall();
        long[][] due = {{1, 305}, {2, 610}, {4, 1220}, {11, 3050}, {1L << 30, 274877907168L},
            {0x0123456789ABCDL, 81985529216486667L}, {1L << 55, -9223372036854775620L}, {ALL_ONES, -216L}};
        for (int i = 0; i < due.length; i++) {
            x.tag(1, due[i][0], 0);
            DUE.is("4: NAME of " + due[i][0], x.name(i), due[i][1]);
        }
        DUE.is("4: name(-1)", x.name(-1), 0);
        DUE.is("4: name(8)", x.name(8), 0);
        DUE.is("4: name(max)", x.name(Integer.MAX_VALUE), 0);
        DUE.is("4: name(min)", x.name(Integer.MIN_VALUE), 0);
    }

    private static void isName() {
        RollCall x = new RollCall();
        long[] names = {0, 305, 610, 851, 1220, 3404, 81985529216486667L, -9223372036854775620L, -216L};
        for (long name : names) {
            DUE.is("5: " + name, x.isName(name), true);
            for (int bit = 0; bit < 64; bit++) {
                long other = name ^ 1L << bit;
                DUE.is("5: " + other, x.isName(other), false);
            }
        }
        DUE.is("5: -1", x.isName(-1L), false);
    }

    private static void tell() {
        RollCall x = new RollCall();
        for (int kind = 0; kind < 6; kind++) {
            x.tag(kind, kind, -kind);
            DUE.is("6: KIND", x.tell(kind, 0), kind);
            DUE.is("6: THERE", x.tell(kind, 1), 1);
            DUE.is("6: AWAKE", x.tell(kind, 2), kind == 4 ? 0 : 1);
            DUE.is("6: LISTENS", x.tell(kind, 3), kind == 4 ? 0 : 1);
            DUE.is("6: counter", x.tell(kind, 4), -1);
            DUE.is("6: SEED", x.tell(kind, 5), -kind);
            DUE.is("6: in the row", x.tell(kind, 6), 0);
        }
        x.begin();
        DUE.is("6: counter of a SPLIT one", x.tell(3, 4), 0);
        DUE.is("6: counter of a SLOTTED one", x.tell(2, 4), -1);
        x.act(1, 0);
        DUE.is("6: went", x.tell(1, 1), 0);
        DUE.is("6: went, AWAKE all the same", x.tell(1, 2), 1);
        DUE.is("6: went, it LISTENS not", x.tell(1, 3), 0);
        x.group(-1L, 0);
        DUE.is("6: in the GROUP", x.tell(0, 3), 1);
        DUE.is("6: beyond the GROUP", x.tell(2, 3), 0);
        x.pass();
        x.pass();
        DUE.is("6: twice in the row", x.tell(0, 6), 2);
    }

    private static void tellOfNone() {
        RollCall x = new RollCall();
        x.tag(3, 1, 5);
        int[] whats = {-1, 7, 8, Integer.MIN_VALUE, Integer.MAX_VALUE};
        for (int what : whats) {
            DUE.is("6: another what", x.tell(0, what), -1);
        }
        int[] tags = {-1, 1, 40, 64, Integer.MIN_VALUE, Integer.MAX_VALUE};
        for (int tag : tags) {
            for (int what = 0; what <= 6; what++) {
                DUE.is("6: no TAG " + tag, x.tell(tag, what), -1);
            }
            DUE.is("7: no TAG " + tag, x.act(tag, 0), false);
            DUE.is("7: no TAG " + tag, x.act(tag, 2), false);
        }
    }

    private static void act() {
        RollCall x = new RollCall();
        x.tag(1, 1, 0);
        DUE.is("7: it is THERE", x.act(0, 1), false);
        DUE.is("7: goes", x.act(0, 0), true);
        DUE.is("7: it went", x.act(0, 0), false);
        DUE.is("7: none LISTENS", x.count(1), 0);
        DUE.is("7: one TAG all the same", x.count(0), 1);
        DUE.is("7: comes back", x.act(0, 1), true);
        DUE.is("7: LISTENS", x.count(1), 1);
        DUE.is("7: it is AWAKE", x.act(0, 2), false);
        DUE.is("7: a SLEEPER alone falls asleep", x.act(0, 3), false);
        DUE.is("7: AWAKE", x.tell(0, 2), 1);
        int[] whats = {-1, 4, Integer.MIN_VALUE, Integer.MAX_VALUE};
        for (int what : whats) {
            DUE.is("7: another what", x.act(0, what), false);
        }
        DUE.is("7: nothing was changed", x.tell(0, 3), 1);
    }

    private static void actAndSleepers() {
        RollCall x = new RollCall();
        x.tag(4, 1, 0);
        DUE.is("7: ASLEEP at first", x.act(0, 3), false);
        DUE.is("7: wakes up", x.act(0, 2), true);
        DUE.is("7: AWAKE", x.act(0, 2), false);
        DUE.is("7: LISTENS", x.tell(0, 3), 1);
        DUE.is("7: falls asleep", x.act(0, 3), true);
        DUE.is("7: LISTENS not", x.tell(0, 3), 0);
        DUE.is("7: goes asleep", x.act(0, 0), true);
        DUE.is("7: wakes up elsewhere", x.act(0, 2), true);
        DUE.is("7: LISTENS not, it went", x.tell(0, 3), 0);
        DUE.is("7: comes back", x.act(0, 1), true);
        DUE.is("7: AWAKE as it was", x.tell(0, 3), 1);
    }

    private static void aTagThatWentKeepsItsCounter() {
        RollCall x = new RollCall();
        x.tag(3, 1, 3);
        x.tag(3, 2, 0);
        x.tag(3, 3, 0);
        x.begin();
        x.split();
        DUE.is("7: counter", x.tell(0, 4), 1);
        x.act(0, 0);
        DUE.is("7: it keeps its counter", x.tell(0, 4), 1);
        x.split();
        DUE.is("7: it keeps its counter in a step", x.tell(0, 4), 1);
        x.act(0, 1);
        x.split();
        DUE.is("7: back, it goes on with it", x.tell(0, 4), 2);
    }

    private static void group() {
        RollCall x = new RollCall();
        for (int i = 0; i < 8; i++) {
            x.tag(i == 7 ? 4 : 1, i, 0);
        }
        DUE.is("8: all but the SLEEPER", x.group(0, 0), 7);
        DUE.is("8: bits beyond the mask", x.group(0, -1L), 7);
        DUE.is("8: bit 55 is 1", x.group(0x100, 0x100), 3);
        DUE.is("8: bit 55 is 0", x.group(0x100, 0x6FF), 4);
        DUE.is("8: two bits", x.group(0x600, 0x400), 2);
        DUE.is("8: who", x.tell(4, 3), 1);
        DUE.is("8: who not", x.tell(6, 3), 0);
        DUE.is("8: one NAME", x.group(-1L, 610), 1);
        DUE.is("8: nobody", x.group(-1L, 611), 0);
        DUE.is("8: the highest bit", x.group(1L << 63, -1L), 0);
        x.act(0, 0);
        DUE.is("8: one went", x.group(1L << 63, 0), 6);
        DUE.is("8: count(1)", x.count(1), 6);
    }

    private static void groupAndLatecomers() {
        RollCall x = new RollCall();
        DUE.is("8: nobody yet", x.group(0x100, 0x1FF), 0);
        x.tag(1, 3, 0);
        x.tag(1, 2, 0);
        DUE.is("8: a latecomer of the GROUP", x.tell(0, 3), 1);
        DUE.is("8: a latecomer beyond it", x.tell(1, 3), 0);
        DUE.is("8: another GROUP", x.group(0x100, 0), 1);
        x.tag(1, 5, 0);
        DUE.is("8: a latecomer beyond that", x.tell(2, 3), 0);
        for (int i = 3; i < 40; i++) {
            x.tag(1, 10 * i, 0);
        }
        DUE.is("8: a GROUP of forty", x.group(0, 0), 40);
    }
}
