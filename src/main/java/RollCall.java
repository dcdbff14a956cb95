import java.util.Arrays;

/**
 * A roll call on one wire: strangers with names of 64 bits, found bit by bit, by the beginnings of
 * their names, by counters that split, or in frames of slots.
 *
 * <p>Sets of TAGS are longs all through this file: there are at most 40 TAGS, and bit t (the lowest
 * being 0) stands for TAG t. Who speaks in a slot is then one mask, and how many do is seen at once.
 */
public final class RollCall {
    public static final int NONE = -1;

    private static final int MOST_TAGS = 40;
    private static final int NAME_BITS = 64;
    private static final int SUM_BITS = 8;
    private static final int SUM_POLYNOMIAL = 0x31;
    private static final int MOST_FOUND = 200;
    private static final int LONGEST_FRAME = 64;
    private static final int IMAGES = 4;
    /** Crowds that share no TAG, of two TAGS at least. */
    private static final int MOST_CROWDS = MOST_TAGS / 2;

    private static final int BIT = 0;
    private static final int SLOTTED = 2;
    private static final int SPLIT = 3;
    private static final int SLEEPER = 4;
    private static final int WEAK = 5;
    private static final int KINDS = 6;

    private static final int COPPER = 0;
    private static final int AIR = 1;

    private static final int QUIET = 0;
    private static final int ALONE = 1;
    private static final int COLLISION = 2;

    private final State now = new State();
    private final State[] images = new State[IMAGES];
    private final long[] slotSpeakers = new long[LONGEST_FRAME];
    private final Crowds crowds = new Crowds();

    public RollCall() {
    }

    // ---- tags and the wire

    public boolean wire(int kind) {
        if (kind != COPPER && kind != AIR) {
            return false;
        }
        now.wireKind = kind;
        return true;
    }

    public int tag(int kind, long name, int seed) {
        long whole = (name << SUM_BITS) | sumOf(name << SUM_BITS);
        return now.tags.add(kind, whole, seed);
    }

    public long name(int tag) {
        return now.tags.has(tag) ? now.tags.names[tag] : 0L;
    }

    public boolean isName(long name) {
        return (name & 0xFF) == sumOf(name);
    }

    public int tell(int tag, int what) {
        if (!now.tags.has(tag)) {
            return NONE;
        }
        switch (what) {
            case 0:
                return now.tags.kinds[tag];
            case 1:
                return oneIf(isIn(now.tags.there, tag));
            case 2:
                return oneIf(isIn(now.tags.awake, tag));
            case 3:
                return oneIf(isIn(now.tags.listening(), tag));
            case 4:
                return now.counters.of(tag);
            case 5:
                return now.tags.seeds[tag];
            case 6:
                return now.tally.timesFound(tag);
            default:
                return NONE;
        }
    }

    public boolean act(int tag, int what) {
        if (!now.tags.has(tag)) {
            return false;
        }
        switch (what) {
            case 0:
                return now.tags.setThere(tag, false);
            case 1:
                return now.tags.setThere(tag, true);
            case 2:
                return now.tags.setAwake(tag, true);
            case 3:
                return now.tags.kinds[tag] == SLEEPER && now.tags.setAwake(tag, false);
            default:
                return false;
        }
    }

    public int group(long mask, long bits) {
        now.tags.regroup(mask, bits);
        return Long.bitCount(now.tags.listening());
    }

    // ---- by bits

    public int pass() {
        long in = now.tags.listening();
        int bitsTold = 0;
        int lastZeroFork = NONE;
        for (int bit = 0; bit < NAME_BITS && in != 0; bit++) {
            bitsTold++;
            long ones = now.tags.tellingOne(in, bit);
            long zeros = in & ~ones;
            boolean isFork = ones != 0 && zeros != 0;
            boolean wayIsOne = isFork ? now.passes.wayIsOneAt(bit) : ones != 0;
            if (isFork && !wayIsOne) {
                lastZeroFork = bit;
            }
            in = wayIsOne ? ones : zeros;
        }
        now.tally.addPassSlots(bitsTold);
        int tag = firstOf(in);
        if (!now.tags.has(tag)) {
            now.passes.endRow();
            return NONE;
        }
        now.passes.goOnFrom(lastZeroFork, now.tags.names[tag]);
        now.tally.addFound(tag);
        return tag;
    }

    public int fork(int what) {
        switch (what) {
            case 0:
                return now.passes.lastFork;
            case 1:
                return now.passes.inRow;
            default:
                return NONE;
        }
    }

    public boolean verify(long name) {
        long in = now.tags.listening();
        int bitsTold = 0;
        for (int bit = 0; bit < NAME_BITS && in != 0; bit++) {
            bitsTold++;
            long ones = now.tags.tellingOne(in, bit);
            in = isOneAt(name, bit) ? ones : in & ~ones;
        }
        now.tally.addPassSlots(bitsTold);
        return in != 0;
    }

    // ---- by beginnings

    public int ask(long bits, int n) {
        if (n < 0 || n > NAME_BITS) {
            return NONE;
        }
        return hearSlot(now.tags.beginningWith(bits, n));
    }

    public int alone() {
        return now.aloneTag;
    }

    public void descend() {
        now.pile.startAnew();
    }

    public int step() {
        if (now.pile.size == 0) {
            return NONE;
        }
        long row = now.pile.topRow();
        int length = now.pile.topLength();
        now.pile.dropTop();
        int heard = hearSlot(now.tags.beginningWith(row, length));
        if (heard == ALONE) {
            now.tally.addFound(now.aloneTag);
        } else if (heard == COLLISION) {
            now.pile.addBoth(row, length);
        }
        return heard;
    }

    public int nodes() {
        int questions = 1;
        admitCrowd(now.tags.asked());
        crowds.turn();
        for (int bit = 0; bit < NAME_BITS && crowds.size > 0; bit++) {
            for (int i = 0; i < crowds.size; i++) {
                long crowd = crowds.at(i);
                long ones = now.tags.tellingOne(crowd, bit);
                admitCrowd(ones);
                admitCrowd(crowd & ~ones);
                questions += 2;
            }
            crowds.turn();
        }
        return questions;
    }

    // ---- by counters, in frames

    public int begin() {
        long holders = now.tags.splitting();
        now.counters.start(holders);
        return Long.bitCount(holders);
    }

    public int split() {
        if (!now.counters.isUnderWay()) {
            return NONE;
        }
        long listening = now.tags.listening();
        long speakers = now.counters.atZero(listening);
        int heard = hearSlot(speakers);
        if (heard == COLLISION) {
            now.counters.shift(listening & ~speakers, 1);
            drawCounters(speakers);
            return heard;
        }
        if (heard == ALONE) {
            now.counters.release(now.aloneTag);
            findAndTire(now.aloneTag);
        }
        now.counters.shift(listening, -1);
        return heard;
    }

    public void frames() {
        now.frames.foundInOne = 0;
    }

    public int frame(int length) {
        if (length < 1 || length > LONGEST_FRAME) {
            return NONE;
        }
        drawSlots(length);
        now.frames.startOne();
        for (int slot = 0; slot < length; slot++) {
            long audible = audibleOf(slotSpeakers[slot]);
            int heard = kindOfSlot(audible);
            now.tally.addSlot(heard);
            now.frames.note(heard);
            if (heard == ALONE) {
                now.frames.foundInOne |= audible;
                findAndTire(firstOf(audible));
            }
        }
        now.frames.guessNext();
        return now.frames.alones;
    }

    public int heard(int what) {
        switch (what) {
            case 0:
                return now.frames.quiets;
            case 1:
                return now.frames.alones;
            case 2:
                return now.frames.collisions;
            case 3:
                return now.frames.guess;
            default:
                return NONE;
        }
    }

    // ---- what is told

    public int found(int k) {
        return now.tally.foundAt(k);
    }

    public int cost(int what) {
        switch (what) {
            case 0:
                return now.tally.quietSlots;
            case 1:
                return now.tally.aloneSlots;
            case 2:
                return now.tally.collisionSlots;
            case 3:
                return now.tally.passSlots;
            case 4:
                return now.tally.allSlots();
            default:
                return NONE;
        }
    }

    public int count(int what) {
        switch (what) {
            case 0:
                return now.tags.size;
            case 1:
                return Long.bitCount(now.tags.listening());
            case 2:
                return now.tally.foundSize;
            case 3:
                return now.pile.size;
            case 4:
                return now.counters.isUnderWay() ? now.counters.callers : NONE;
            default:
                return NONE;
        }
    }

    public boolean image(int k) {
        if (k < 0 || k >= IMAGES) {
            return false;
        }
        State image = images[k];
        if (image == null) {
            image = new State();
            images[k] = image;
        }
        image.copyFrom(now);
        return true;
    }

    public boolean again(int k) {
        if (k < 0 || k >= IMAGES) {
            return false;
        }
        State image = images[k];
        if (image == null) {
            return false;
        }
        now.copyFrom(image);
        return true;
    }

    // ---- slots

    /** A slot of ask(), step() or split(); alone() tells of these, and not of a frame's. */
    private int hearSlot(long speakers) {
        long audible = audibleOf(speakers);
        int heard = kindOfSlot(audible);
        now.tally.addSlot(heard);
        now.aloneTag = heard == ALONE ? firstOf(audible) : NONE;
        return heard;
    }

    /** In AIR a single strong voice covers all weak ones; in any other slot all are audible. */
    private long audibleOf(long speakers) {
        long strong = speakers & ~now.tags.ofKind[WEAK];
        boolean isCovering = now.wireKind == AIR && kindOfSlot(strong) == ALONE;
        return isCovering ? strong : speakers;
    }

    private void admitCrowd(long speakers) {
        if (kindOfSlot(audibleOf(speakers)) == COLLISION) {
            crowds.admit(speakers);
        }
    }

    private void findAndTire(int tag) {
        now.tally.addFound(tag);
        now.tags.tire(tag);
    }

    private void drawCounters(long speakers) {
        for (int tag = 0; tag < now.tags.size; tag++) {
            if (isIn(speakers, tag)) {
                now.counters.put(tag, now.tags.draw(tag, 2));
            }
        }
    }

    private void drawSlots(int length) {
        Arrays.fill(slotSpeakers, 0L);
        long drawing = now.tags.slotted() & ~now.frames.foundInOne;
        for (int tag = 0; tag < now.tags.size; tag++) {
            if (isIn(drawing, tag)) {
                int slot = now.tags.draw(tag, length);
                if (slot >= 0 && slot < LONGEST_FRAME) {
                    slotSpeakers[slot] |= setOf(tag);
                }
            }
        }
    }

    private static int kindOfSlot(long audible) {
        if (audible == 0) {
            return QUIET;
        }
        return (audible & (audible - 1)) == 0 ? ALONE : COLLISION;
    }

    // ---- sets of TAGS, bits of NAMES

    private static long setOf(int tag) {
        return 1L << tag;
    }

    private static boolean isIn(long set, int tag) {
        return (set & setOf(tag)) != 0;
    }

    /** The lowest TAG of a set; NONE of an empty one. */
    private static int firstOf(long set) {
        return set == 0 ? NONE : Long.bitCount((set & -set) - 1);
    }

    private static int oneIf(boolean holds) {
        return holds ? 1 : 0;
    }

    /** Bit 0 of a NAME is its highest one. */
    private static boolean isOneAt(long name, int bit) {
        return (name >>> (NAME_BITS - 1 - bit) & 1) == 1;
    }

    /** Looks at the first 56 bits alone, whatever the last 8 are. */
    private static int sumOf(long name) {
        int sum = 0;
        for (int bit = 0; bit < NAME_BITS - SUM_BITS; bit++) {
            boolean fellOut = (sum & 0x80) != 0;
            sum = (sum << 1) & 0xFF;
            if (fellOut != isOneAt(name, bit)) {
                sum ^= SUM_POLYNOMIAL;
            }
        }
        return sum;
    }

    /** All that is told, so that an image is one copy of it. */
    private static final class State {
        final Tags tags = new Tags();
        final Passes passes = new Passes();
        final Pile pile = new Pile();
        final Counters counters = new Counters();
        final Frames frames = new Frames();
        final Tally tally = new Tally();
        int wireKind = COPPER;
        int aloneTag = NONE;

        void copyFrom(State other) {
            tags.copyFrom(other.tags);
            passes.copyFrom(other.passes);
            pile.copyFrom(other.pile);
            counters.copyFrom(other.counters);
            frames.copyFrom(other.frames);
            tally.copyFrom(other.tally);
            wireKind = other.wireKind;
            aloneTag = other.aloneTag;
        }
    }

    /** The TAGS, and which of them LISTEN. */
    private static final class Tags {
        final int[] kinds = new int[MOST_TAGS];
        final long[] names = new long[MOST_TAGS];
        final int[] seeds = new int[MOST_TAGS];
        /** For each bit of a NAME the set of those that have a 1 there. */
        final long[] ones = new long[NAME_BITS];
        final long[] ofKind = new long[KINDS];
        int size;
        long there;
        long awake;
        long grouped;
        long groupMask;
        long groupBits;

        boolean has(int tag) {
            return tag >= 0 && tag < size;
        }

        int add(int kind, long name, int seed) {
            if (size >= MOST_TAGS || kind < 0 || kind >= KINDS || isTaken(name)) {
                return NONE;
            }
            int tag = size;
            size++;
            kinds[tag] = kind;
            names[tag] = name;
            seeds[tag] = seed;
            ofKind[kind] |= setOf(tag);
            there |= setOf(tag);
            if (kind != SLEEPER) {
                awake |= setOf(tag);
            }
            if (isOfGroup(name)) {
                grouped |= setOf(tag);
            }
            noteOnes(tag, name);
            return tag;
        }

        private void noteOnes(int tag, long name) {
            for (int bit = 0; bit < NAME_BITS; bit++) {
                if (isOneAt(name, bit)) {
                    ones[bit] |= setOf(tag);
                }
            }
        }

        private boolean isTaken(long name) {
            for (int tag = 0; tag < size; tag++) {
                if (names[tag] == name) {
                    return true;
                }
            }
            return false;
        }

        private boolean isOfGroup(long name) {
            return (name & groupMask) == groupBits;
        }

        void regroup(long mask, long bits) {
            groupMask = mask;
            groupBits = bits & mask;
            grouped = 0;
            for (int tag = 0; tag < size; tag++) {
                if (isOfGroup(names[tag])) {
                    grouped |= setOf(tag);
                }
            }
        }

        /** False if it is so already. */
        boolean setThere(int tag, boolean wanted) {
            if (isIn(there, tag) == wanted) {
                return false;
            }
            there ^= setOf(tag);
            return true;
        }

        /** False if it is so already. */
        boolean setAwake(int tag, boolean wanted) {
            if (isIn(awake, tag) == wanted) {
                return false;
            }
            awake ^= setOf(tag);
            return true;
        }

        /** A SLEEPER falls asleep once it is found by counters or in a frame. */
        void tire(int tag) {
            awake &= ~(setOf(tag) & ofKind[SLEEPER]);
        }

        long listening() {
            return there & awake & grouped;
        }

        /** Those that LISTEN, of the KIND ASKED or under it. */
        long asked() {
            return listening() & ~ofKind[BIT];
        }

        /** Those that LISTEN, of the KIND SLOTTED or under it. */
        long slotted() {
            return listening() & (ofKind[SLOTTED] | ofKind[SPLIT] | ofKind[SLEEPER] | ofKind[WEAK]);
        }

        /** Those that LISTEN, of the KIND SPLIT or under it. */
        long splitting() {
            return listening() & (ofKind[SPLIT] | ofKind[SLEEPER]);
        }

        long tellingOne(long set, int bit) {
            return bit >= 0 && bit < NAME_BITS ? set & ones[bit] : 0L;
        }

        long beginningWith(long bits, int n) {
            long speakers = asked();
            for (int bit = 0; bit < n && speakers != 0; bit++) {
                long telling = tellingOne(speakers, bit);
                speakers = isOneAt(bits, bit) ? telling : speakers & ~telling;
            }
            return speakers;
        }

        int draw(int tag, int below) {
            if (!has(tag) || below < 1) {
                return 0;
            }
            seeds[tag] = 1103515245 * seeds[tag] + 12345;
            return (seeds[tag] >>> 16) % below;
        }

        void copyFrom(Tags other) {
            System.arraycopy(other.kinds, 0, kinds, 0, MOST_TAGS);
            System.arraycopy(other.names, 0, names, 0, MOST_TAGS);
            System.arraycopy(other.seeds, 0, seeds, 0, MOST_TAGS);
            System.arraycopy(other.ones, 0, ones, 0, NAME_BITS);
            System.arraycopy(other.ofKind, 0, ofKind, 0, KINDS);
            size = other.size;
            there = other.there;
            awake = other.awake;
            grouped = other.grouped;
            groupMask = other.groupMask;
            groupBits = other.groupBits;
        }
    }

    /** The row of passes: what the next one knows of the latest one. */
    private static final class Passes {
        int lastFork = NONE;
        int inRow;
        /** Of no use, and not looked at, without a LAST FORK. */
        long latestName;

        boolean wayIsOneAt(int bit) {
            if (bit < lastFork) {
                return isOneAt(latestName, bit);
            }
            return bit == lastFork;
        }

        void goOnFrom(int fork, long name) {
            if (fork == NONE) {
                endRow();
                return;
            }
            lastFork = fork;
            latestName = name;
            inRow++;
        }

        void endRow() {
            lastFork = NONE;
            inRow = 0;
        }

        void copyFrom(Passes other) {
            lastFork = other.lastFork;
            inRow = other.inRow;
            latestName = other.latestName;
        }
    }

    /** The pile of a DESCENT: one row of each length waits at most, but for the two latest ones. */
    private static final class Pile {
        private static final int MOST_ROWS = NAME_BITS + 1;

        final long[] rows = new long[MOST_ROWS];
        final int[] lengths = new int[MOST_ROWS];
        int size;

        void startAnew() {
            size = 0;
            add(0L, 0);
        }

        long topRow() {
            return size > 0 ? rows[size - 1] : 0L;
        }

        int topLength() {
            return size > 0 ? lengths[size - 1] : 0;
        }

        void dropTop() {
            if (size > 0) {
                size--;
            }
        }

        void addBoth(long row, int length) {
            if (length < NAME_BITS) {
                add(row | 1L << (NAME_BITS - 1 - length), length + 1);
                add(row, length + 1);
            }
        }

        private void add(long row, int length) {
            if (size < MOST_ROWS) {
                rows[size] = row;
                lengths[size] = length;
                size++;
            }
        }

        void copyFrom(Pile other) {
            System.arraycopy(other.rows, 0, rows, 0, MOST_ROWS);
            System.arraycopy(other.lengths, 0, lengths, 0, MOST_ROWS);
            size = other.size;
        }
    }

    /**
     * The sets that collide in a DESCENT that is only counted: for rows of one length, and of the
     * next one. A pile of rows would do too, but would ask each TAG at each of them.
     */
    private static final class Crowds {
        private final long[] present = new long[MOST_CROWDS];
        private final long[] next = new long[MOST_CROWDS];
        private int nextSize;
        int size;

        void admit(long crowd) {
            if (nextSize < MOST_CROWDS) {
                next[nextSize] = crowd;
                nextSize++;
            }
        }

        long at(int i) {
            return i >= 0 && i < size ? present[i] : 0L;
        }

        /** The next ones are the present ones, and there are no next ones yet. */
        void turn() {
            System.arraycopy(next, 0, present, 0, nextSize);
            size = nextSize;
            nextSize = 0;
        }
    }

    /** The counters of a SPLIT, and the caller's count. */
    private static final class Counters {
        final int[] values = new int[MOST_TAGS];
        long holders;
        int callers = NONE;

        void start(long all) {
            Arrays.fill(values, 0);
            holders = all;
            callers = 0;
        }

        boolean isUnderWay() {
            return callers >= 0;
        }

        int of(int tag) {
            return tag >= 0 && tag < MOST_TAGS && isIn(holders, tag) ? values[tag] : NONE;
        }

        void put(int tag, int value) {
            if (tag >= 0 && tag < MOST_TAGS) {
                values[tag] = value;
            }
        }

        void release(int tag) {
            holders &= ~setOf(tag);
        }

        long atZero(long listening) {
            long speakers = 0;
            for (int tag = 0; tag < MOST_TAGS; tag++) {
                if (isIn(listening & holders, tag) && values[tag] == 0) {
                    speakers |= setOf(tag);
                }
            }
            return speakers;
        }

        /** The caller's count goes along with them, below 0 too: then the SPLIT is over. */
        void shift(long set, int by) {
            for (int tag = 0; tag < MOST_TAGS; tag++) {
                if (isIn(set & holders, tag)) {
                    values[tag] = Math.max(0, values[tag] + by);
                }
            }
            callers += by;
        }

        void copyFrom(Counters other) {
            System.arraycopy(other.values, 0, values, 0, MOST_TAGS);
            holders = other.holders;
            callers = other.callers;
        }
    }

    /** Who was found in a frame, and what was heard in the latest one. */
    private static final class Frames {
        long foundInOne;
        int quiets;
        int alones;
        int collisions;
        int guess;

        void startOne() {
            quiets = 0;
            alones = 0;
            collisions = 0;
        }

        void note(int heard) {
            if (heard == QUIET) {
                quiets++;
            } else if (heard == ALONE) {
                alones++;
            } else {
                collisions++;
            }
        }

        void guessNext() {
            int cut = (int) (2.39f * (float) collisions);
            guess = Math.max(1, Math.min(LONGEST_FRAME, cut));
        }

        void copyFrom(Frames other) {
            foundInOne = other.foundInOne;
            quiets = other.quiets;
            alones = other.alones;
            collisions = other.collisions;
            guess = other.guess;
        }
    }

    /** The row of FOUND, and COST. */
    private static final class Tally {
        final int[] foundTags = new int[MOST_FOUND];
        int foundSize;
        int quietSlots;
        int aloneSlots;
        int collisionSlots;
        int passSlots;

        void addFound(int tag) {
            if (foundSize < MOST_FOUND) {
                foundTags[foundSize] = tag;
                foundSize++;
            }
        }

        int foundAt(int k) {
            return k >= 0 && k < foundSize ? foundTags[k] : NONE;
        }

        int timesFound(int tag) {
            int times = 0;
            for (int k = 0; k < foundSize; k++) {
                if (foundTags[k] == tag) {
                    times++;
                }
            }
            return times;
        }

        void addSlot(int heard) {
            if (heard == QUIET) {
                quietSlots++;
            } else if (heard == ALONE) {
                aloneSlots++;
            } else {
                collisionSlots++;
            }
        }

        /** One slot to begin and three for each bit that was told. */
        void addPassSlots(int bitsTold) {
            passSlots += 1 + 3 * bitsTold;
        }

        int allSlots() {
            return quietSlots + aloneSlots + collisionSlots + passSlots;
        }

        void copyFrom(Tally other) {
            System.arraycopy(other.foundTags, 0, foundTags, 0, MOST_FOUND);
            foundSize = other.foundSize;
            quietSlots = other.quietSlots;
            aloneSlots = other.aloneSlots;
            collisionSlots = other.collisionSlots;
            passSlots = other.passSlots;
        }
    }
}
