/** All that an object tells, as a text: two objects of one text are alike in all that can be seen. */
final class Told {
    private Told() {
    }

    /** What is told now; no call of it changes anything. */
    static String now(RollCall x) {
        StringBuilder s = new StringBuilder();
        for (int tag = 0; tag < 40; tag++) {
            s.append(x.name(tag)).append(' ');
            for (int what = 0; what < 7; what++) {
                s.append(x.tell(tag, what)).append(' ');
            }
        }
        for (int what = 0; what < 5; what++) {
            s.append(x.fork(what)).append(' ').append(x.heard(what)).append(' ');
            s.append(x.cost(what)).append(' ').append(x.count(what)).append(' ');
        }
        for (int k = 0; k < 200; k++) {
            s.append(x.found(k)).append(' ');
        }
        return s.append(x.alone()).append(' ').append(x.nodes()).toString();
    }

    /** What is told now and by calls that bring to light what is hidden; the object is used up. */
    static String all(RollCall x) {
        StringBuilder s = new StringBuilder(now(x));
        x.tag(5, 1L << 54, 0);
        x.tag(2, 1L << 54 | 1, 0);
        s.append(x.ask(1L << 62, 55)).append(' ');
        for (int i = 0; i < 3; i++) {
            s.append(x.step()).append(' ').append(x.split()).append(' ').append(x.ask(0, i)).append(' ');
            s.append(x.tag(2, 7000 + i, i)).append(' ').append(x.pass()).append(' ').append(x.frame(3 + i));
            s.append(now(x));
        }
        for (int k = 0; k < 4; k++) {
            s.append(x.again(k)).append(now(x));
        }
        return s.toString();
    }
}
