/** Promises 19 to 21: frames, frame, heard. */
public final class FramesTest {
    private static final Due DUE = new Due("FramesTest");

    public static void main(String[] args) {
        slotsAreInOrder();
        ofKinds();
        lengths();
        foundOnesAreSilent();
        framesBeginAnew();
        weakVoices();
        sleepers();
        listeners();
        guesses();
        heardOfTheLatest();
        DUE.end();
    }

    private static RollCall withSeeds(int kind, int... seeds) {
        RollCall x = new RollCall();
        for (int i = 0; i < seeds.length; i++) {
            x.tag(kind, i, seeds[i]);
        }
        return x;
    }

    /** SEEDS 1, 0 and 3 draw the slots 2, 0 and 3 of four. */
    private static void slotsAreInOrder() {
        RollCall x = withSeeds(2, 3, 1, 0);
        DUE.is("20: three", x.frame(4), 3);
        DUE.is("22: slot 0", x.found(0), 2);
        DUE.is("22: slot 2", x.found(1), 1);
        DUE.is("22: slot 3", x.found(2), 0);
        DUE.is("21: QUIET", x.heard(0), 1);
        DUE.is("21: ALONE", x.heard(1), 3);
        DUE.is("21: COLLISION", x.heard(2), 0);
        DUE.is("21: guessed", x.heard(3), 1);
        DUE.is("23: QUIET", x.cost(0), 1);
        DUE.is("23: ALONE", x.cost(1), 3);
        DUE.is("23: all", x.cost(4), 4);
        DUE.is("6: SEED", x.tell(0, 5), -984409216);
        DUE.is("6: SEED", x.tell(1, 5), 1103527590);
    }

    private static void ofKinds() {
        for (int kind = 0; kind < 6; kind++) {
            RollCall x = withSeeds(kind, 0);
            x.act(0, 2);
            DUE.is("20: KIND " + kind, x.frame(1), kind < 2 ? 0 : 1);
            DUE.is("6: SEED of KIND " + kind, x.tell(0, 5), kind < 2 ? 0 : 12345);
        }
    }

    private static void lengths() {
        RollCall x = withSeeds(2, 0, 10);
        int[] others = {0, -1, 65, 66, Integer.MIN_VALUE, Integer.MAX_VALUE};
        for (int length : others) {
            DUE.is("20: length " + length, x.frame(length), -1);
        }
        DUE.is("20: refused ones cost nothing", x.cost(4), 0);
        DUE.is("20: nobody drew", x.tell(0, 5), 0);
        DUE.is("21: ahead of any", x.heard(3), 0);
        DUE.is("20: one slot", x.frame(1), 0);
        DUE.is("21: COLLISION", x.heard(2), 1);
        x = withSeeds(2, 0, 10);
        DUE.is("20: slots 0 and 63", x.frame(64), 2);
        DUE.is("21: QUIET", x.heard(0), 62);
        DUE.is("20: refused", x.frame(65), -1);
        DUE.is("21: as it was", x.heard(0), 62);
    }

    private static void foundOnesAreSilent() {
        RollCall x = withSeeds(2, 0, 1, 1);
        DUE.is("20: one of three", x.frame(4), 1);
        DUE.is("21: COLLISION", x.heard(2), 1);
        DUE.is("20: the same two once more", x.frame(1), 0);
        DUE.is("6: the found one drew nothing", x.tell(0, 5), 12345);
        x.act(0, 0);
        x.act(0, 1);
        x.act(2, 0);
        DUE.is("20: gone and back it is silent still", x.frame(1), 1);
        DUE.is("22: the other", x.found(1), 1);
        x.pass();
        DUE.is("20: all but one were found in one", x.frame(3), 0);
        DUE.is("21: all QUIET", x.heard(0), 3);
        x.act(2, 1);
        DUE.is("20: back, it speaks", x.frame(3), 1);
    }

    private static void framesBeginAnew() {
        RollCall x = withSeeds(3, 0);
        x.pass();
        x.descend();
        x.step();
        x.begin();
        x.split();
        DUE.is("20: found in other ways it speaks", x.frame(2), 1);
        DUE.is("20: found in a frame it does not", x.frame(2), 0);
        x.frames();
        DUE.is("21: the latest frame is as it was", x.heard(0), 2);
        DUE.is("19: it costs nothing", x.cost(0), 3);
        DUE.is("19: found once more", x.frame(2), 1);
        DUE.is("22: again and again", x.tell(0, 6), 5);
    }

    private static void weakVoices() {
        RollCall x = withSeeds(5, 0, 0);
        x.tag(3, 50, 0);
        x.wire(1);
        DUE.is("20: the strong one", x.frame(8), 1);
        DUE.is("22: it", x.found(0), 2);
        DUE.is("21: ALONE", x.heard(1), 1);
        DUE.is("20: the weak ones collide", x.frame(1), 0);
        DUE.is("21: COLLISION", x.heard(2), 1);
        x.act(0, 0);
        DUE.is("20: a weak one alone", x.frame(1), 1);
        x.frames();
        x.wire(0);
        DUE.is("20: on COPPER they collide", x.frame(1), 0);
    }

    private static void sleepers() {
        RollCall x = withSeeds(4, 0);
        DUE.is("20: ASLEEP", x.frame(2), 0);
        x.act(0, 2);
        DUE.is("20: AWAKE", x.frame(2), 1);
        DUE.is("6: it falls asleep", x.tell(0, 2), 0);
        x.frames();
        DUE.is("20: ASLEEP again", x.frame(2), 0);
        x.act(0, 2);
        x.tag(4, 1, x.tell(0, 5));
        x.act(1, 2);
        DUE.is("20: two of one SEED", x.frame(2), 0);
        DUE.is("6: who is not found stays AWAKE", x.tell(0, 2) + x.tell(1, 2), 2);
    }

    private static void listeners() {
        RollCall x = withSeeds(2, 0, 0, 0);
        x.act(0, 0);
        x.group(0x100, 0x100);
        DUE.is("20: who LISTENS", x.frame(1), 1);
        DUE.is("22: it", x.found(0), 1);
        DUE.is("6: who does not draws nothing", x.tell(2, 5), 0);
    }

    /** The pairs of one SEED draw one slot: SEEDS 0 to 9 draw ten slots of 64. */
    private static void guesses() {
        int[] due = {1, 2, 4, 7, 9, 11, 14, 16, 19, 21, 23};
        for (int pairs = 0; pairs <= 10; pairs++) {
            RollCall x = new RollCall();
            for (int i = 0; i < 2 * pairs; i++) {
                x.tag(2, i, i / 2);
            }
            DUE.is("20: nobody of " + pairs + " pairs", x.frame(64), 0);
            DUE.is("21: COLLISIONS", x.heard(2), pairs);
            DUE.is("21: guessed", x.heard(3), due[pairs]);
            DUE.is("23: COLLISIONS", x.cost(2), pairs);
            DUE.is("23: QUIET", x.cost(0), 64 - pairs);
        }
    }

    private static void heardOfTheLatest() {
        RollCall x = withSeeds(2, 0, 1);
        int[] others = {-1, 4, 5, Integer.MIN_VALUE, Integer.MAX_VALUE};
        for (int what : others) {
            DUE.is("21: another what", x.heard(what), -1);
        }
        x.frames();
        for (int what = 0; what <= 3; what++) {
            DUE.is("21: ahead of any", x.heard(what), 0);
        }
        x.frame(1);
        DUE.is("21: a COLLISION", x.heard(2), 1);
        x.frames();
        x.act(0, 0);
        x.frame(1);
        DUE.is("21: none in the latest one", x.heard(2), 0);
        x.frame(3);
        DUE.is("21: the latest one alone", x.heard(0), 3);
        DUE.is("21: ALONE", x.heard(1), 0);
        DUE.is("21: 1 at least", x.heard(3), 1);
    }
}
