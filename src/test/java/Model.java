import java.util.ArrayList;
import java.util.List;

/**
 * The document once more, read word by word and written in another way than RollCall: NAMES and rows
 * are texts of '0' and '1', TAGS are objects, and who speaks is a list. It is slow and plain, so that
 * a fault of the one is not a fault of the other.
 */
final class Model {
    static final int NONE = -1;

    private static final class Tag {
        int number;
        int kind;
        String name;
        int seed;
        boolean there = true;
        boolean awake;
        int counter = NONE;
        boolean foundInFrame = false;

        Tag copy() {
            Tag t = new Tag();
            t.number = number;
            t.kind = kind;
            t.name = name;
            t.seed = seed;
            t.there = there;
            t.awake = awake;
            t.counter = counter;
            t.foundInFrame = foundInFrame;
            return t;
        }

        int draw(int n) {
            seed = (int) (1103515245L * seed + 12345L);
            long shifted = (seed & 0xFFFFFFFFL) / 65536;
            return (int) (shifted % n);
        }
    }

    private List<Tag> tags = new ArrayList<>();
    private boolean air = false;
    private String mask = bitsOf(0L);
    private String groupBits = bitsOf(0L);
    private int lastFork = NONE;
    private String lastName = "";
    private int passes = 0;
    private int alone = NONE;
    private List<String> pile = new ArrayList<>();
    private int callers = NONE;
    private int[] heard = new int[4];
    private List<Integer> found = new ArrayList<>();
    private int[] cost = new int[4];
    private final Model[] images = new Model[4];

    // ---- words of the terms

    static String bitsOf(long number) {
        StringBuilder s = new StringBuilder(Long.toBinaryString(number));
        while (s.length() < 64) {
            s.insert(0, '0');
        }
        return s.toString();
    }

    private static String sumOf(String first56) {
        StringBuilder sum = new StringBuilder("00000000");
        String fortyNine = "00110001";
        for (char bit : first56.toCharArray()) {
            char out = sum.charAt(0);
            sum.deleteCharAt(0).append('0');
            if (out != bit) {
                for (int i = 0; i < 8; i++) {
                    sum.setCharAt(i, sum.charAt(i) == fortyNine.charAt(i) ? '0' : '1');
                }
            }
        }
        return sum.toString();
    }

    private static boolean isUnder(int kind, int other) {
        int[] above = {NONE, 0, 1, 2, 3, 2};
        for (int k = kind; k != NONE; k = above[k]) {
            if (k == other) {
                return true;
            }
        }
        return false;
    }

    private boolean listens(Tag t) {
        if (!t.there || !t.awake) {
            return false;
        }
        for (int i = 0; i < 64; i++) {
            if (mask.charAt(i) == '1' && t.name.charAt(i) != groupBits.charAt(i)) {
                return false;
            }
        }
        return true;
    }

    private List<Tag> listening(int kind) {
        List<Tag> all = new ArrayList<>();
        for (Tag t : tags) {
            if (listens(t) && isUnder(t.kind, kind)) {
                all.add(t);
            }
        }
        return all;
    }

    /** Null: not ALONE. */
    private Tag aloneOf(List<Tag> speakers) {
        if (speakers.size() == 1) {
            return speakers.get(0);
        }
        Tag strong = null;
        int strongs = 0;
        for (Tag t : speakers) {
            if (t.kind != 5) {
                strong = t;
                strongs++;
            }
        }
        return air && strongs == 1 ? strong : null;
    }

    private int kindOf(List<Tag> speakers) {
        return speakers.isEmpty() ? 0 : aloneOf(speakers) != null ? 1 : 2;
    }

    private int slot(List<Tag> speakers) {
        int kind = kindOf(speakers);
        cost[kind]++;
        alone = kind == 1 ? aloneOf(speakers).number : NONE;
        return kind;
    }

    private void find(Tag t) {
        if (found.size() < 200) {
            found.add(t.number);
        }
    }

    private Tag at(int tag) {
        return tag >= 0 && tag < tags.size() ? tags.get(tag) : null;
    }

    // ---- the face

    boolean wire(int kind) {
        if (kind == 0 || kind == 1) {
            air = kind == 1;
            return true;
        }
        return false;
    }

    int tag(int kind, long name, int seed) {
        String first = bitsOf(name).substring(8);
        String whole = first + sumOf(first);
        if (tags.size() == 40 || kind < 0 || kind > 5) {
            return NONE;
        }
        for (Tag t : tags) {
            if (t.name.equals(whole)) {
                return NONE;
            }
        }
        Tag t = new Tag();
        t.number = tags.size();
        t.kind = kind;
        t.name = whole;
        t.seed = seed;
        t.awake = kind != 4;
        tags.add(t);
        return t.number;
    }

    long name(int tag) {
        return at(tag) == null ? 0 : Long.parseUnsignedLong(at(tag).name, 2);
    }

    boolean isName(long name) {
        String bits = bitsOf(name);
        return bits.endsWith(sumOf(bits.substring(0, 56)));
    }

    int tell(int tag, int what) {
        Tag t = at(tag);
        if (t == null) {
            return NONE;
        }
        int times = 0;
        for (int f : found) {
            times += f == tag ? 1 : 0;
        }
        int[] told = {t.kind, t.there ? 1 : 0, t.awake ? 1 : 0, listens(t) ? 1 : 0, t.counter, t.seed, times};
        return what >= 0 && what < told.length ? told[what] : NONE;
    }

    boolean act(int tag, int what) {
        Tag t = at(tag);
        if (t == null) {
            return false;
        }
        if (what == 0 && t.there) {
            t.there = false;
        } else if (what == 1 && !t.there) {
            t.there = true;
        } else if (what == 2 && !t.awake) {
            t.awake = true;
        } else if (what == 3 && t.awake && t.kind == 4) {
            t.awake = false;
        } else {
            return false;
        }
        return true;
    }

    int group(long m, long bits) {
        mask = bitsOf(m);
        groupBits = bitsOf(bits);
        return listening(0).size();
    }

    int pass() {
        List<Tag> in = listening(0);
        int slots = 1;
        int zeroFork = NONE;
        for (int bit = 0; bit < 64; bit++) {
            if (in.isEmpty()) {
                break;
            }
            slots += 3;
            List<Tag> zeros = new ArrayList<>();
            List<Tag> ones = new ArrayList<>();
            for (Tag t : in) {
                (t.name.charAt(bit) == '1' ? ones : zeros).add(t);
            }
            if (zeros.isEmpty()) {
                in = ones;
            } else if (ones.isEmpty()) {
                in = zeros;
            } else {
                char way = '0';
                if (lastFork != NONE && bit < lastFork) {
                    way = lastName.charAt(bit);
                } else if (lastFork != NONE && bit == lastFork) {
                    way = '1';
                }
                in = way == '1' ? ones : zeros;
                zeroFork = way == '0' ? bit : zeroFork;
            }
        }
        cost[3] += slots;
        lastFork = in.isEmpty() ? NONE : zeroFork;
        passes = lastFork == NONE ? 0 : passes + 1;
        if (in.isEmpty()) {
            return NONE;
        }
        lastName = in.get(0).name;
        find(in.get(0));
        return in.get(0).number;
    }

    int fork(int what) {
        return what == 0 ? lastFork : what == 1 ? passes : NONE;
    }

    boolean verify(long name) {
        String called = bitsOf(name);
        List<Tag> in = listening(0);
        cost[3]++;
        for (int bit = 0; bit < 64 && !in.isEmpty(); bit++) {
            cost[3] += 3;
            List<Tag> still = new ArrayList<>();
            for (Tag t : in) {
                if (t.name.charAt(bit) == called.charAt(bit)) {
                    still.add(t);
                }
            }
            in = still;
        }
        return !in.isEmpty();
    }

    private List<Tag> beginning(String row) {
        List<Tag> all = new ArrayList<>();
        for (Tag t : listening(1)) {
            if (t.name.startsWith(row)) {
                all.add(t);
            }
        }
        return all;
    }

    int ask(long bits, int n) {
        return n < 0 || n > 64 ? NONE : slot(beginning(bitsOf(bits).substring(0, n)));
    }

    int alone() {
        return alone;
    }

    void descend() {
        pile.clear();
        pile.add("");
    }

    int step() {
        if (pile.isEmpty()) {
            return NONE;
        }
        String row = pile.remove(pile.size() - 1);
        List<Tag> speakers = beginning(row);
        int kind = slot(speakers);
        if (kind == 1) {
            find(aloneOf(speakers));
        }
        if (kind == 2 && row.length() < 64) {
            pile.add(row + "1");
            pile.add(row + "0");
        }
        return kind;
    }

    /** By doing it: a whole DESCENT on a copy. */
    int nodes() {
        Model other = new Model();
        other.take(this);
        other.descend();
        int questions = 0;
        while (other.step() != NONE) {
            questions++;
        }
        return questions;
    }

    int begin() {
        callers = 0;
        int holders = 0;
        for (Tag t : tags) {
            t.counter = isUnder(t.kind, 3) && listens(t) ? 0 : NONE;
            holders += t.counter == 0 ? 1 : 0;
        }
        return holders;
    }

    int split() {
        if (callers < 0) {
            return NONE;
        }
        List<Tag> speakers = new ArrayList<>();
        List<Tag> others = new ArrayList<>();
        for (Tag t : listening(3)) {
            if (t.counter == 0) {
                speakers.add(t);
            } else if (t.counter != NONE) {
                others.add(t);
            }
        }
        int kind = slot(speakers);
        if (kind == 2) {
            for (Tag t : speakers) {
                t.counter = t.draw(2);
            }
            for (Tag t : others) {
                t.counter++;
            }
            callers++;
            return kind;
        }
        if (kind == 1) {
            Tag t = aloneOf(speakers);
            find(t);
            t.counter = NONE;
            t.awake = t.kind != 4;
        }
        for (Tag t : others) {
            t.counter--;
        }
        callers--;
        return kind;
    }

    void frames() {
        for (Tag t : tags) {
            t.foundInFrame = false;
        }
    }

    int frame(int length) {
        if (length < 1 || length > 64) {
            return NONE;
        }
        List<List<Tag>> slots = new ArrayList<>();
        for (int i = 0; i < length; i++) {
            slots.add(new ArrayList<>());
        }
        for (Tag t : listening(2)) {
            if (!t.foundInFrame) {
                slots.get(t.draw(length)).add(t);
            }
        }
        heard = new int[4];
        for (List<Tag> speakers : slots) {
            int kind = kindOf(speakers);
            heard[kind]++;
            cost[kind]++;
            if (kind == 1) {
                Tag t = aloneOf(speakers);
                find(t);
                t.foundInFrame = true;
                t.awake = t.kind != 4;
            }
        }
        float guess = 2.39f * (float) heard[2];
        heard[3] = guess < 1 ? 1 : guess > 64 ? 64 : (int) guess;
        return heard[1];
    }

    int heard(int what) {
        return what < 0 || what > 3 ? NONE : heard[what];
    }

    int found(int k) {
        return k < 0 || k >= found.size() ? NONE : found.get(k);
    }

    int cost(int what) {
        if (what == 4) {
            return cost[0] + cost[1] + cost[2] + cost[3];
        }
        return what < 0 || what > 4 ? NONE : cost[what];
    }

    int count(int what) {
        int[] counts = {tags.size(), listening(0).size(), found.size(), pile.size(), callers};
        return what < 0 || what > 4 ? NONE : counts[what];
    }

    boolean image(int k) {
        if (k < 0 || k > 3) {
            return false;
        }
        images[k] = new Model();
        images[k].take(this);
        return true;
    }

    boolean again(int k) {
        if (k < 0 || k > 3 || images[k] == null) {
            return false;
        }
        take(images[k]);
        return true;
    }

    private void take(Model other) {
        tags = new ArrayList<>();
        for (Tag t : other.tags) {
            tags.add(t.copy());
        }
        air = other.air;
        mask = other.mask;
        groupBits = other.groupBits;
        lastFork = other.lastFork;
        lastName = other.lastName;
        passes = other.passes;
        alone = other.alone;
        pile = new ArrayList<>(other.pile);
        callers = other.callers;
        heard = other.heard.clone();
        found = new ArrayList<>(other.found);
        cost = other.cost.clone();
    }
}
