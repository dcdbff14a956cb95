/** Promises 22 to 26: found, cost, count, image, again. */
public final class ToldTest {
    private static final Due DUE = new Due("ToldTest");

    public static void main(String[] args) {
        found();
        foundIsCutAtTwoHundred();
        cost();
        count();
        imageOfAnother();
        imagesKeepAll();
        imagesAreFour();
        imagesStandForThemselves();
        imageOfANewObject();
        latecomersAreForgotten();
        tagsOfAnImage();
        pileOfAnImage();
        countersOfAnImage();
        framesOfAnImage();
        rowOfFoundOfAnImage();
        DUE.end();
    }

    private static void found() {
        RollCall x = new RollCall();
        x.tag(3, 1, 0);
        DUE.is("22: none yet", x.found(0), -1);
        x.pass();
        DUE.is("22: by bits", x.found(0), 0);
        DUE.is("22: -1", x.found(-1), -1);
        DUE.is("22: behind the last", x.found(1), -1);
        DUE.is("22: min", x.found(Integer.MIN_VALUE), -1);
        DUE.is("22: max", x.found(Integer.MAX_VALUE), -1);
        x.act(0, 0);
        DUE.is("22: one that went is in the row", x.found(0), 0);
    }

    private static void foundIsCutAtTwoHundred() {
        RollCall x = new RollCall();
        x.tag(4, 1, 0);
        x.act(0, 2);
        for (int i = 0; i < 200; i++) {
            x.pass();
        }
        DUE.is("24: 200", x.count(2), 200);
        x.tag(4, 2, 0);
        x.act(1, 2);
        x.act(0, 0);
        DUE.is("9: found beyond the row", x.pass(), 1);
        DUE.is("20: found beyond the row", x.frame(4), 1);
        DUE.is("6: ASLEEP all the same", x.tell(1, 2), 0);
        x.act(1, 2);
        DUE.is("20: found in a frame all the same", x.frame(4), 0);
        DUE.is("24: 200 at most", x.count(2), 200);
        DUE.is("22: the last one", x.found(199), 0);
        DUE.is("22: none behind it", x.found(200), -1);
        DUE.is("6: 200 times", x.tell(0, 6), 200);
        DUE.is("6: not in the row", x.tell(1, 6), 0);
    }

    private static void cost() {
        RollCall x = new RollCall();
        x.tag(3, 0, 0);
        x.tag(3, 1, 1);
        x.pass();
        x.verify(-1L);
        x.ask(0, 0);
        x.ask(-1L, 1);
        x.descend();
        x.step();
        x.begin();
        x.split();
        x.frame(1);
        DUE.is("23: QUIET", x.cost(0), 1);
        DUE.is("23: ALONE", x.cost(1), 0);
        DUE.is("23: COLLISION", x.cost(2), 4);
        x.act(1, 0);
        x.frame(5);
        x.ask(0, 56);
        DUE.is("23: QUIET then", x.cost(0), 5);
        DUE.is("23: ALONE then", x.cost(1), 2);
        DUE.is("23: passes and verify()", x.cost(3), 197);
        DUE.is("23: all", x.cost(4), 5 + 2 + 4 + 197);
        int[] others = {-1, 5, Integer.MIN_VALUE, Integer.MAX_VALUE};
        for (int what : others) {
            DUE.is("23: another what", x.cost(what), -1);
            DUE.is("24: another what", x.count(what), -1);
        }
    }

    private static void count() {
        RollCall x = new RollCall();
        x.tag(3, 0, 0);
        x.tag(3, 1, 0);
        x.tag(4, 2, 0);
        x.pass();
        x.descend();
        x.step();
        x.begin();
        x.split();
        DUE.is("24: TAGS", x.count(0), 3);
        DUE.is("24: that LISTEN", x.count(1), 2);
        DUE.is("24: in the row", x.count(2), 1);
        DUE.is("24: on the pile", x.count(3), 2);
        DUE.is("24: the caller's count", x.count(4), 1);
    }

    private static void imageOfAnother() {
        RollCall x = new RollCall();
        int[] others = {-1, 4, Integer.MIN_VALUE, Integer.MAX_VALUE};
        for (int k : others) {
            DUE.is("25: image " + k, x.image(k), false);
            DUE.is("26: image " + k, x.again(k), false);
        }
        x.tag(1, 1, 0);
        DUE.is("26: none was made", x.again(0), false);
        DUE.is("26: nothing was changed", x.count(0), 1);
    }

    /** Every call that changes something, between an image and its coming back. */
    private static void imagesKeepAll() {
        RollCall x = new RollCall();
        for (int i = 0; i < 12; i++) {
            x.tag(i % 6, i, i);
            x.act(i, 2);
        }
        changeAll(x);
        String before = Told.now(x);
        DUE.is("25: image", x.image(3), true);
        DUE.is("25: it changes nothing", Told.now(x).equals(before), true);
        String[] after = new String[2];
        for (int round = 0; round < 2; round++) {
            x.wire(1);
            x.tag(1, 900, 5);
            x.act(5, 0);
            x.group(0x100, 0);
            changeAll(x);
            after[round] = Told.now(x);
            DUE.is("26: something was changed", after[round].equals(before), false);
            DUE.is("26: again", x.again(3), true);
            DUE.is("26: all is as it was", Told.now(x).equals(before), true);
        }
        DUE.is("26: and goes on alike", after[0].equals(after[1]), true);
    }

    private static void changeAll(RollCall x) {
        x.pass();
        x.pass();
        x.verify(305);
        x.descend();
        x.step();
        x.step();
        x.begin();
        x.split();
        x.split();
        x.frames();
        x.frame(9);
        x.frame(7);
        x.ask(305, 64);
    }

    private static void imagesAreFour() {
        RollCall x = new RollCall();
        for (int k = 0; k < 4; k++) {
            x.tag(1, k, 0);
            DUE.is("25: image " + k, x.image(k), true);
        }
        x.tag(1, 9, 0);
        int[] order = {2, 0, 3, 1, 1};
        for (int k : order) {
            DUE.is("26: again " + k, x.again(k), true);
            DUE.is("26: of " + k, x.count(0), k + 1);
        }
        DUE.is("25: made anew", x.image(3), true);
        x.again(0);
        x.again(3);
        DUE.is("26: the later one", x.count(0), 2);
    }

    private static void imagesStandForThemselves() {
        RollCall x = new RollCall();
        x.tag(3, 0, 0);
        x.tag(3, 1, 0);
        x.image(0);
        x.begin();
        x.split();
        x.again(0);
        DUE.is("26: no counter", x.tell(0, 4), -1);
        DUE.is("26: no SPLIT", x.split(), -1);
        x.frame(64);
        x.pass();
        x.again(0);
        DUE.is("26: the SEED", x.tell(0, 5), 0);
        DUE.is("26: the row of passes", x.fork(0), -1);
        DUE.is("26: nothing heard", x.heard(0), 0);
        RollCall other = new RollCall();
        DUE.is("26: another object has none of it", other.again(0), false);
    }

    private static void imageOfANewObject() {
        RollCall x = new RollCall();
        x.image(1);
        x.wire(1);
        x.group(-1L, -1L);
        x.tag(5, 1, 0);
        x.again(1);
        DUE.is("26: no TAGS", x.count(0), 0);
        DUE.is("26: the first again", x.tag(5, 1, 0), 0);
        x.tag(1, 2, 0);
        DUE.is("26: a GROUP of all", x.count(1), 2);
        DUE.is("26: of COPPER", x.ask(0, 0), 2);
    }

    /** A TAG made behind an image leaves no bit, KIND or mark to the one that takes its number. */
    private static void latecomersAreForgotten() {
        RollCall x = new RollCall();
        x.tag(2, 0, 0);
        x.image(0);
        x.tag(5, 0xFFFFFFFFFFFFFFL, 0);
        x.frame(64);
        x.again(0);
        DUE.is("26: none such", x.tell(1, 0), -1);
        DUE.is("26: its NAME is free", x.tag(4, 1, 7), 1);
        DUE.is("26: its KIND", x.tell(1, 0), 4);
        DUE.is("26: ASLEEP at first", x.tell(1, 2), 0);
        x.act(1, 2);
        x.wire(1);
        DUE.is("26: it is not WEAK", x.ask(0, 0), 2);
        DUE.is("26: its bits", x.ask(305, 64), 1);
        DUE.is("26: it was found in no frame", x.frame(64), 2);
    }

    /** TAG 0 is another one in each of two images. */
    private static void tagsOfAnImage() {
        RollCall x = new RollCall();
        x.image(0);
        x.tag(1, 1, 11);
        x.image(1);
        x.again(0);
        x.tag(2, 2, 22);
        x.image(2);
        x.again(1);
        DUE.is("26: NAME", x.name(0), 305);
        DUE.is("26: KIND", x.tell(0, 0), 1);
        DUE.is("26: SEED", x.tell(0, 5), 11);
        DUE.is("26: its bits", x.verify(305), true);
        x.again(2);
        DUE.is("26: NAME", x.name(0), 610);
        DUE.is("26: KIND", x.tell(0, 0), 2);
        DUE.is("26: SEED", x.tell(0, 5), 22);
        DUE.is("26: its bits", x.verify(610), true);
    }

    private static void pileOfAnImage() {
        RollCall x = new RollCall();
        x.tag(1, 1L << 55, 0);
        x.tag(1, 3L << 54, 0);
        x.descend();
        x.step();
        x.step();
        x.image(0);
        DUE.is("26: the row 1", x.step(), 2);
        DUE.is("26: the row 10", x.step(), 1);
        DUE.is("26: the row 11", x.step(), 1);
        x.tag(1, 0, 0);
        x.descend();
        x.step();
        x.step();
        x.step();
        x.again(0);
        DUE.is("26: the pile", x.count(3), 1);
        DUE.is("26: the row 1 again", x.step(), 2);
        DUE.is("26: the row 10 again", x.step(), 1);
        DUE.is("26: who", x.alone(), 0);
        DUE.is("26: the row 11 again", x.step(), 1);
        DUE.is("26: over", x.step(), -1);
    }

    /** SEEDS 3 and 0 draw the counters 1 and 0. */
    private static void countersOfAnImage() {
        RollCall x = new RollCall();
        x.tag(3, 0, 3);
        x.tag(3, 1, 0);
        x.begin();
        x.split();
        x.image(0);
        x.split();
        DUE.is("26: one less", x.tell(0, 4), 0);
        x.split();
        DUE.is("26: over", x.count(4), -1);
        x.again(0);
        DUE.is("26: counter", x.tell(0, 4), 1);
        DUE.is("26: counter", x.tell(1, 4), 0);
        DUE.is("26: the caller's count", x.count(4), 1);
        DUE.is("26: the SPLIT goes on", x.split(), 1);
        DUE.is("26: who", x.alone(), 1);
    }

    /** SEEDS 0, 1, 1, 3, 3 and 7, 7 draw the slots 0, 6, 19 and 44 of 64. */
    private static void framesOfAnImage() {
        RollCall x = new RollCall();
        int[] seeds = {0, 1, 1, 3, 3, 7, 7};
        for (int i = 0; i < seeds.length; i++) {
            x.tag(2, i, seeds[i]);
        }
        DUE.is("20: one", x.frame(64), 1);
        x.image(0);
        x.frames();
        x.group(-1L, -1L);
        x.frame(2);
        DUE.is("21: no COLLISION", x.heard(2), 0);
        DUE.is("21: guessed", x.heard(3), 1);
        x.again(0);
        DUE.is("26: QUIET", x.heard(0), 60);
        DUE.is("26: ALONE", x.heard(1), 1);
        DUE.is("26: COLLISION", x.heard(2), 3);
        DUE.is("26: guessed", x.heard(3), 7);
        x.group(-1L, 0);
        DUE.is("26: found in a frame", x.frame(1), 0);
        DUE.is("26: it is silent", x.heard(0), 1);
    }

    private static void rowOfFoundOfAnImage() {
        RollCall x = new RollCall();
        x.tag(1, 0, 0);
        x.tag(1, 1, 0);
        x.image(0);
        x.pass();
        x.image(1);
        x.again(0);
        x.act(0, 0);
        x.pass();
        DUE.is("22: the other", x.found(0), 1);
        x.again(1);
        DUE.is("26: the row of FOUND", x.found(0), 0);
        DUE.is("26: its length", x.count(2), 1);
        DUE.is("26: how often", x.tell(1, 6), 0);
    }
}
