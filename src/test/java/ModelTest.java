import java.util.Random;

/** Long mixed runs: RollCall and the Model are called alike, and all that is told must agree. */
public final class ModelTest {
    private static final int RUNS = 3000;
    private static final int CALLS = 400;

    private final Due due;
    private final Random random;
    private final RollCall x = new RollCall();
    private final Model m = new Model();
    private final int spread;
    private String call = "";

    private ModelTest(Due due, long seed) {
        this.due = due;
        this.random = new Random(seed);
        this.spread = random.nextInt(4);
    }

    public static void main(String[] args) {
        Due due = new Due("ModelTest");
        for (int run = 0; run < RUNS && !due.hasWrong(); run++) {
            new ModelTest(due, run).run(run);
        }
        due.end();
    }

    private void run(int run) {
        for (int i = 0; i < CALLS && !due.hasWrong(); i++) {
            callOne();
            if (i % 8 == 0 || i == CALLS - 1) {
                compareAll();
            }
        }
        if (due.hasWrong()) {
            System.out.println("ModelTest: in run " + run);
        }
    }

    private void is(String what, long got, long want) {
        call = what;
        due.is(what, got, want);
    }

    private void is(String what, boolean got, boolean want) {
        is(what, got ? 1L : 0L, want ? 1L : 0L);
    }

    /** Few bits differ in some runs and many in others: forks early, late, and none. */
    private long anyNumber() {
        switch (spread) {
            case 0:
                return random.nextInt(48);
            case 1:
                return random.nextLong();
            case 2:
                return (long) random.nextInt(8) << 53 | (long) random.nextInt(4) << 20 | random.nextInt(4);
            default:
                return 1L << random.nextInt(60);
        }
    }

    private int anyTag() {
        return random.nextInt(44) - 2;
    }

    private long anyName() {
        long name = m.name(random.nextInt(40));
        return random.nextInt(3) > 0 ? name : name ^ 1L << random.nextInt(64);
    }

    private void callOne() {
        switch (random.nextInt(24)) {
            case 0: case 1: case 2:
                callTag();
                break;
            case 3: case 4:
                callAct();
                break;
            case 5:
                callGroup();
                break;
            case 6: case 7: case 8:
                is("pass()", x.pass(), m.pass());
                break;
            case 9:
                callVerify();
                break;
            case 10: case 11:
                callAsk();
                break;
            case 12: case 13: case 14:
                callStep();
                break;
            case 15:
                is("nodes()", x.nodes(), m.nodes());
                break;
            case 16: case 17: case 18: case 19:
                callSplit();
                break;
            case 20: case 21:
                callFrame();
                break;
            case 22:
                callRare();
                break;
            default:
                callImage();
                break;
        }
    }

    private void callTag() {
        int kind = random.nextInt(20) == 0 ? random.nextInt(20) - 7 : random.nextInt(6);
        long number = anyNumber();
        int seed = random.nextBoolean() ? random.nextInt(5) : random.nextInt();
        is("tag(" + kind + ", " + number + ", " + seed + ")", x.tag(kind, number, seed), m.tag(kind, number, seed));
    }

    private void callAct() {
        int tag = anyTag();
        int what = random.nextInt(10) == 0 ? random.nextInt(9) - 3 : 1 + random.nextInt(2);
        if (random.nextInt(3) == 0) {
            what = random.nextBoolean() ? 0 : 3;
        }
        is("act(" + tag + ", " + what + ")", x.act(tag, what), m.act(tag, what));
    }

    private void callGroup() {
        long mask = random.nextInt(3) == 0 ? 1L << random.nextInt(64) : 0L;
        long bits = random.nextBoolean() ? anyName() : random.nextLong();
        if (random.nextInt(12) == 0) {
            mask = -1L;
        }
        is("group(" + mask + ", " + bits + ")", x.group(mask, bits), m.group(mask, bits));
    }

    private void callVerify() {
        long name = anyName();
        is("verify(" + name + ")", x.verify(name), m.verify(name));
        is("isName(" + name + ")", x.isName(name), m.isName(name));
    }

    private void callAsk() {
        long bits = anyName();
        int n = random.nextInt(4) == 0 ? random.nextInt(80) - 8 : random.nextInt(65);
        is("ask(" + bits + ", " + n + ")", x.ask(bits, n), m.ask(bits, n));
    }

    private void callStep() {
        if (random.nextInt(30) == 0) {
            x.descend();
            m.descend();
        }
        int steps = random.nextInt(20) == 0 ? 70 : 1;
        for (int i = 0; i < steps; i++) {
            is("step()", x.step(), m.step());
        }
    }

    private void callSplit() {
        if (random.nextInt(12) == 0) {
            is("begin()", x.begin(), m.begin());
        }
        is("split()", x.split(), m.split());
    }

    private void callFrame() {
        int length = random.nextInt(8) == 0 ? random.nextInt(70) - 3 : 1 + random.nextInt(20);
        is("frame(" + length + ")", x.frame(length), m.frame(length));
    }

    private void callRare() {
        if (random.nextInt(3) == 0) {
            x.frames();
            m.frames();
        } else {
            int kind = random.nextInt(5) == 0 ? random.nextInt(5) - 2 : random.nextInt(2);
            is("wire(" + kind + ")", x.wire(kind), m.wire(kind));
        }
    }

    private void callImage() {
        int k = random.nextInt(6) - 1;
        if (random.nextInt(3) > 0) {
            is("image(" + k + ")", x.image(k), m.image(k));
        } else {
            is("again(" + k + ")", x.again(k), m.again(k));
        }
    }

    private void compareAll() {
        String after = " behind " + call;
        for (int tag = -1; tag <= 40; tag++) {
            due.is("name(" + tag + ")" + after, x.name(tag), m.name(tag));
            for (int what = -1; what <= 7; what++) {
                due.is("tell(" + tag + ", " + what + ")" + after, x.tell(tag, what), m.tell(tag, what));
            }
        }
        due.is("alone()" + after, x.alone(), m.alone());
        for (int what = -1; what <= 5; what++) {
            due.is("fork(" + what + ")" + after, x.fork(what), m.fork(what));
            due.is("heard(" + what + ")" + after, x.heard(what), m.heard(what));
            due.is("cost(" + what + ")" + after, x.cost(what), m.cost(what));
            due.is("count(" + what + ")" + after, x.count(what), m.count(what));
        }
        for (int k = -1; k <= 200; k++) {
            due.is("found(" + k + ")" + after, x.found(k), m.found(k));
        }
    }
}
