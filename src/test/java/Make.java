/** Objects that a test begins with, and SEEDS for what is to be drawn. */
final class Make {
    /** Values at and around every limit of the document, and the ends of int. */
    static final int[] INTS = {Integer.MIN_VALUE, Integer.MIN_VALUE + 1, -65536, -257, -256, -200, -65, -64, -41,
        -40, -32, -8, -7, -6, -5, -4, -3, -2, -1, 0, 1, 2, 3, 4, 5, 6, 7, 8, 9, 31, 32, 33, 39, 40, 41, 55, 56, 57,
        63, 64, 65, 127, 128, 199, 200, 201, 255, 256, 257, 511, 512, 65535, 65536, Integer.MAX_VALUE - 1,
        Integer.MAX_VALUE};

    private Make() {
    }

    /** TAGS of one KIND, AWAKE, with these numbers as the first bits of their NAMES. */
    static RollCall tags(int kind, long... numbers) {
        RollCall x = new RollCall();
        for (long number : numbers) {
            addAwake(x, kind, number, 0);
        }
        return x;
    }

    /** TAGS of one KIND, AWAKE, with these SEEDS; the first bits of their NAMES are 0, 1, 2 .. */
    static RollCall seeds(int kind, int... seeds) {
        RollCall x = new RollCall();
        for (int i = 0; i < seeds.length; i++) {
            addAwake(x, kind, i, seeds[i]);
        }
        return x;
    }

    static int addAwake(RollCall x, int kind, long number, int seed) {
        int tag = x.tag(kind, number, seed);
        x.act(tag, 2);
        return tag;
    }

    /** A SEED with which a TAG draws these numbers below a limit, one behind the other. */
    static int seedThatDraws(int below, int... draws) {
        for (int seed = 0; seed < 10000000; seed++) {
            if (doesDraw(seed, below, draws)) {
                return seed;
            }
        }
        throw new IllegalArgumentException("no SEED was found");
    }

    private static boolean doesDraw(int seed, int below, int[] draws) {
        long now = seed;
        for (int draw : draws) {
            now = (1103515245L * now + 12345L) & 0xFFFFFFFFL;
            if (now / 65536 % below != draw) {
                return false;
            }
        }
        return true;
    }

    /** Ints of the list that are not from first to last. */
    static int[] intsBeyond(int first, int last) {
        return java.util.Arrays.stream(INTS).filter(i -> i < first || i > last).toArray();
    }
}
