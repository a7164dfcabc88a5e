/**
 * Finds which of many boxes in space overlap: each is widened a little, so that it may move within
 * that without any work; the pairs of widened boxes that overlap, and that their groups and masks let
 * through, are kept from one update to the next, and what began and ended is told; boxes that overlap
 * a given one, or that a line meets, are found as well.
 */
public final class PairFinder {
    public static final int NONE = -1;

    private static final int BODIES = 512;
    private static final int MOST_PAIRS = 16384;
    private static final int FARTHEST = 16384;
    private static final int LONGEST_MOVEMENT = 256;

    private final Box pad;
    private final Body[] bodies;
    private int bodiesThere;

    private PairSet pairs;
    private PairSet nextPairs;
    private final PairSet begun;
    private final PairSet ended;
    private int updates;

    private final int[] foundBodies;
    private final float[] foundFloats;
    private int foundSize;

    /** Used again by every call that needs a box of its own, so that no call makes an object. */
    private final Box workBox;

    public PairFinder() {
        pad = new Box();
        bodies = new Body[BODIES];
        for (int body = 0; body < BODIES; body++) {
            bodies[body] = new Body();
        }
        pairs = new PairSet();
        nextPairs = new PairSet();
        begun = new PairSet();
        ended = new PairSet();
        foundBodies = new int[BODIES];
        foundFloats = new float[BODIES];
        workBox = new Box();
    }

    public void low(float x, float y, float z) throws IllegalArgumentException {
        requireGood(x, y, z);
        pad.setCorner(Box.LOW, x, y, z);
    }

    public void high(float x, float y, float z) throws IllegalArgumentException {
        requireGood(x, y, z);
        pad.setCorner(Box.HIGH, x, y, z);
    }

    public int add(int group, int mask) throws IllegalArgumentException, IllegalStateException {
        requirePadIsBox();
        requireRoomFor(1);
        return addBodies(1, 0, 0, 0, group, mask);
    }

    public int addRow(int n, float dx, float dy, float dz, int group, int mask)
            throws IllegalArgumentException, IllegalStateException {
        if (n < 1 || n > BODIES) {
            throw new IllegalArgumentException("n is not 1 .. 512");
        }
        requirePadIsBox();
        requireMovement(dx, dy, dz);
        if (!rowStaysGood(n, dx, dy, dz)) {
            throw new IllegalArgumentException("a number would be bad");
        }
        requireRoomFor(n);
        return addBodies(n, dx, dy, dz, group, mask);
    }

    public boolean move(int body, float dx, float dy, float dz)
            throws IndexOutOfBoundsException, IllegalArgumentException {
        requireThere(body);
        requirePadIsBox();
        requireMovement(dx, dy, dz);
        return bodies[body].moveTo(pad, dx, dy, dz);
    }

    public int shift(int from, int to, float dx, float dy, float dz)
            throws IndexOutOfBoundsException, IllegalArgumentException {
        if (!isBodyNumber(from) || !isBodyNumber(to) || from > to) {
            throw new IndexOutOfBoundsException("from .. to are no numbers of bodies");
        }
        requireMovement(dx, dy, dz);
        int widened = 0;
        for (int body = from; body <= to; body++) {
            if (bodies[body].there && shiftBody(bodies[body], dx, dy, dz)) {
                widened++;
            }
        }
        return widened;
    }

    public void filter(int body, int group, int mask) throws IndexOutOfBoundsException {
        requireThere(body);
        bodies[body].setFilter(group, mask);
    }

    public int remove(int body) throws IndexOutOfBoundsException {
        requireThere(body);
        int removed = 0;
        for (int other = 0; other < BODIES; other++) {
            if (arePair(body, other)) {
                pairs.put(pairCode(body, other), false);
                removed++;
            }
        }
        bodies[body].leave();
        bodiesThere--;
        return removed;
    }

    public int update() throws IllegalStateException {
        nextPairs.copyFrom(pairs);
        for (int body = 0; body < BODIES; body++) {
            if (bodies[body].touched) {
                reviewPairsOf(body);
            }
        }
        if (nextPairs.size > MOST_PAIRS) {
            throw new IllegalStateException("there would be more than 16384 pairs");
        }
        begun.setToDifference(nextPairs, pairs);
        ended.setToDifference(pairs, nextPairs);
        PairSet before = pairs;
        pairs = nextPairs;
        nextPairs = before;
        for (int body = 0; body < BODIES; body++) {
            bodies[body].touched = false;
        }
        updates++;
        return pairs.size;
    }

    public int pair(int which, int k) throws IndexOutOfBoundsException {
        if (which < 0 || which > 2) {
            throw new IndexOutOfBoundsException("which is not 0 .. 2");
        }
        PairSet told = which == 0 ? pairs : which == 1 ? begun : ended;
        if (k < 0 || k >= told.size) {
            throw new IndexOutOfBoundsException("there is no such pair");
        }
        return told.codeAt(k);
    }

    public boolean paired(int a, int b) throws IndexOutOfBoundsException {
        requireThere(a);
        requireThere(b);
        return arePair(a, b);
    }

    public int overlapping(int mask) throws IllegalArgumentException {
        requirePadIsBox();
        foundSize = 0;
        for (int body = 0; body < BODIES; body++) {
            Body asked = bodies[body];
            if (asked.there && (asked.group & mask) != 0 && asked.wide.overlaps(pad)) {
                appendFound(body, 0);
            }
        }
        return foundSize;
    }

    public int meeting(int mask) {
        foundSize = 0;
        for (int body = 0; body < BODIES; body++) {
            Body asked = bodies[body];
            if (asked.there && (asked.group & mask) != 0) {
                float enter = asked.wide.enterOfLine(pad);
                if (enter != Box.NOT_MET) {
                    appendFound(body, enter);
                }
            }
        }
        return foundSize;
    }

    public int found(int k) throws IndexOutOfBoundsException {
        requireFound(k);
        return foundBodies[k];
    }

    public float where(int k) throws IndexOutOfBoundsException {
        requireFound(k);
        return foundFloats[k];
    }

    public int nearest() {
        if (foundSize == 0) {
            return NONE;
        }
        int best = 0;
        for (int k = 1; k < foundSize; k++) {
            if (foundFloats[k] < foundFloats[best]) {
                best = k;
            }
        }
        return foundBodies[best];
    }

    public float corner(int body, int what) throws IndexOutOfBoundsException {
        requireThere(body);
        if (what < 0 || what >= 2 * Box.NUMBERS) {
            throw new IndexOutOfBoundsException("what is not 0 .. 11");
        }
        if (what < Box.NUMBERS) {
            return bodies[body].wide.numbers[what];
        }
        return bodies[body].tight.numbers[what - Box.NUMBERS];
    }

    public int about(int body, int what) throws IndexOutOfBoundsException {
        requireThere(body);
        switch (what) {
            case 0:
                return bodies[body].group;
            case 1:
                return bodies[body].mask;
            case 2:
                return pairsOf(body);
            case 3:
                return bodies[body].touched ? 1 : 0;
            default:
                throw new IndexOutOfBoundsException("what is not 0 .. 3");
        }
    }

    public int count(int what) throws IndexOutOfBoundsException {
        switch (what) {
            case 0:
                return bodiesThere;
            case 1:
                return pairs.size;
            case 2:
                return begun.size;
            case 3:
                return ended.size;
            case 4:
                return updates;
            case 5:
                return touchedBodies();
            case 6:
                return foundSize;
            default:
                throw new IndexOutOfBoundsException("what is not 0 .. 6");
        }
    }

    private static void requireGood(float x, float y, float z) {
        if (!isWithin(x, FARTHEST) || !isWithin(y, FARTHEST) || !isWithin(z, FARTHEST)) {
            throw new IllegalArgumentException("a number is not -16384 .. 16384");
        }
    }

    private static void requireMovement(float dx, float dy, float dz) {
        if (!isWithin(dx, LONGEST_MOVEMENT) || !isWithin(dy, LONGEST_MOVEMENT) || !isWithin(dz, LONGEST_MOVEMENT)) {
            throw new IllegalArgumentException("a movement is not -256 .. 256");
        }
    }

    private void requirePadIsBox() {
        if (!pad.isBox()) {
            throw new IllegalArgumentException("the pad is no box");
        }
    }

    private void requireRoomFor(int n) {
        if (BODIES - bodiesThere < n) {
            throw new IllegalStateException("too few bodies are not there");
        }
    }

    private void requireThere(int body) {
        if (!isBodyNumber(body) || !bodies[body].there) {
            throw new IndexOutOfBoundsException("there is no such body");
        }
    }

    private void requireFound(int k) {
        if (k < 0 || k >= foundSize) {
            throw new IndexOutOfBoundsException("there is no such place in FOUND");
        }
    }

    /** Both comparisons are false for NaN, so that it is never within. */
    private static boolean isWithin(float number, int limit) {
        return number >= -limit && number <= limit;
    }

    private static boolean isBodyNumber(int body) {
        return body >= 0 && body < BODIES;
    }

    /** Walks the row before any body is added, as a call that throws must change nothing. */
    private boolean rowStaysGood(int n, float dx, float dy, float dz) {
        workBox.copyFrom(pad);
        for (int behindFirst = 1; behindFirst < n; behindFirst++) {
            workBox.moveBy(dx, dy, dz);
            if (!workBox.isGood()) {
                return false;
            }
        }
        return true;
    }

    private int addBodies(int n, float dx, float dy, float dz, int group, int mask) {
        workBox.copyFrom(pad);
        int last = NONE;
        int added = 0;
        for (int body = 0; body < BODIES && added < n; body++) {
            if (!bodies[body].there) {
                if (added > 0) {
                    workBox.moveBy(dx, dy, dz);
                }
                bodies[body].appear(workBox, group, mask);
                last = body;
                added++;
            }
        }
        bodiesThere += added;
        return last;
    }

    private boolean shiftBody(Body shifted, float dx, float dy, float dz) {
        workBox.copyFrom(shifted.tight);
        workBox.moveBy(dx, dy, dz);
        return workBox.isGood() && shifted.moveTo(workBox, dx, dy, dz);
    }

    /**
     * Only pairs with a touched body can have become others since the latest update; of two touched
     * bodies the one with the lower number has seen to their pair already.
     */
    private void reviewPairsOf(int body) {
        Body reviewed = bodies[body];
        for (int other = 0; other < BODIES; other++) {
            boolean seen = other < body && bodies[other].touched;
            if (other != body && !seen) {
                nextPairs.put(pairCode(body, other), reviewed.pairsWith(bodies[other]));
            }
        }
    }

    private boolean arePair(int a, int b) {
        return a != b && pairs.holds(pairCode(a, b));
    }

    private static int pairCode(int a, int b) {
        return a < b ? a * BODIES + b : b * BODIES + a;
    }

    private int pairsOf(int body) {
        int all = 0;
        for (int other = 0; other < BODIES; other++) {
            if (arePair(body, other)) {
                all++;
            }
        }
        return all;
    }

    private int touchedBodies() {
        int all = 0;
        for (int body = 0; body < BODIES; body++) {
            if (bodies[body].touched) {
                all++;
            }
        }
        return all;
    }

    /** Each search empties FOUND and appends a body once at most, so that there is always room. */
    private void appendFound(int body, float number) {
        if (foundSize < BODIES) {
            foundBodies[foundSize] = body;
            foundFloats[foundSize] = number;
            foundSize++;
        }
    }

    /** A low and a high corner; the pad may hold two corners that make no box. */
    private static final class Box {
        static final int LOW = 0;
        static final int HIGH = 3;
        static final int AXES = 3;
        static final int NUMBERS = 6;

        /** A line enters at 0 or later, so that this can't be where it does. */
        static final int NOT_MET = -1;

        /** In the order in which corner tells them: the low x, y, z, then the high ones. */
        final float[] numbers = new float[NUMBERS];

        void setCorner(int which, float x, float y, float z) {
            int first = which == LOW ? LOW : HIGH;
            numbers[first] = x;
            numbers[first + 1] = y;
            numbers[first + 2] = z;
        }

        void copyFrom(Box other) {
            System.arraycopy(other.numbers, 0, numbers, 0, NUMBERS);
        }

        void moveBy(float dx, float dy, float dz) {
            for (int first = LOW; first <= HIGH; first += AXES) {
                numbers[first] = numbers[first] + dx;
                numbers[first + 1] = numbers[first + 1] + dy;
                numbers[first + 2] = numbers[first + 2] + dz;
            }
        }

        void widen(float dx, float dy, float dz) {
            widenAxis(0, dx);
            widenAxis(1, dy);
            widenAxis(2, dz);
        }

        private void widenAxis(int axis, float d) {
            float lowest = numbers[LOW + axis] - 0.25f;
            float highest = numbers[HIGH + axis] + 0.25f;
            numbers[LOW + axis] = d < 0 ? lowest + d * 2 : lowest;
            numbers[HIGH + axis] = d < 0 ? highest : highest + d * 2;
        }

        boolean isBox() {
            for (int axis = 0; axis < AXES; axis++) {
                if (numbers[LOW + axis] > numbers[HIGH + axis]) {
                    return false;
                }
            }
            return true;
        }

        boolean isGood() {
            for (int number = 0; number < NUMBERS; number++) {
                if (!isWithin(numbers[number], FARTHEST)) {
                    return false;
                }
            }
            return true;
        }

        boolean overlaps(Box other) {
            for (int axis = 0; axis < AXES; axis++) {
                if (numbers[LOW + axis] > other.numbers[HIGH + axis]
                        || other.numbers[LOW + axis] > numbers[HIGH + axis]) {
                    return false;
                }
            }
            return true;
        }

        boolean liesIn(Box other) {
            for (int axis = 0; axis < AXES; axis++) {
                if (numbers[LOW + axis] < other.numbers[LOW + axis]
                        || numbers[HIGH + axis] > other.numbers[HIGH + axis]) {
                    return false;
                }
            }
            return true;
        }

        /** Where the line from the low to the high corner of line enters this box, or NOT_MET. */
        float enterOfLine(Box line) {
            float enter = 0;
            float leave = 1;
            for (int axis = 0; axis < AXES; axis++) {
                float start = line.numbers[LOW + axis];
                float d = line.numbers[HIGH + axis] - start;
                if (d == 0) {
                    if (start < numbers[LOW + axis] || start > numbers[HIGH + axis]) {
                        return NOT_MET;
                    }
                } else {
                    float a = (numbers[LOW + axis] - start) / d;
                    float b = (numbers[HIGH + axis] - start) / d;
                    float first = a > b ? b : a;
                    float last = a > b ? a : b;
                    enter = first > enter ? first : enter;
                    leave = last < leave ? last : leave;
                }
            }
            return enter > leave ? NOT_MET : enter;
        }
    }

    private static final class Body {
        final Box tight = new Box();
        final Box wide = new Box();
        int group;
        int mask;
        boolean there;
        /** Never true of a body that is not there. */
        boolean touched;

        void appear(Box box, int newGroup, int newMask) {
            there = true;
            tight.copyFrom(box);
            wide.copyFrom(box);
            wide.widen(0, 0, 0);
            setFilter(newGroup, newMask);
        }

        void leave() {
            there = false;
            touched = false;
        }

        void setFilter(int newGroup, int newMask) {
            group = newGroup;
            mask = newMask;
            touched = true;
        }

        /** Whether the wide box became another one. */
        boolean moveTo(Box box, float dx, float dy, float dz) {
            tight.copyFrom(box);
            if (tight.liesIn(wide)) {
                return false;
            }
            wide.copyFrom(box);
            wide.widen(dx, dy, dz);
            touched = true;
            return true;
        }

        boolean pairsWith(Body other) {
            return there && other.there
                    && (group & other.mask) != 0 && (other.group & mask) != 0
                    && wide.overlaps(other.wide);
        }
    }

    /**
     * A set of pairs, each told as a * 512 + b, as one bit for each that could be: they are in order
     * by themselves, and more than the document allows can be held until they are counted.
     */
    private static final class PairSet {
        static final int WORD_BITS = 64;
        static final int WORDS = BODIES * BODIES / WORD_BITS;

        final long[] words = new long[WORDS];
        int size;

        boolean holds(int code) {
            return (words[code / WORD_BITS] >>> (code % WORD_BITS) & 1L) != 0;
        }

        void put(int code, boolean in) {
            if (holds(code) != in) {
                words[code / WORD_BITS] ^= 1L << (code % WORD_BITS);
                size += in ? 1 : -1;
            }
        }

        void copyFrom(PairSet other) {
            System.arraycopy(other.words, 0, words, 0, WORDS);
            size = other.size;
        }

        void setToDifference(PairSet all, PairSet without) {
            size = 0;
            for (int word = 0; word < WORDS; word++) {
                words[word] = all.words[word] & ~without.words[word];
                size += Long.bitCount(words[word]);
            }
        }

        /** The pair at place k from the lowest on; NONE behind the last one. */
        int codeAt(int k) {
            int left = k;
            for (int word = 0; word < WORDS; word++) {
                int here = Long.bitCount(words[word]);
                if (left < here) {
                    return word * WORD_BITS + bitAt(words[word], left);
                }
                left -= here;
            }
            return NONE;
        }

        private static int bitAt(long word, int k) {
            int left = k;
            for (int bit = 0; bit < WORD_BITS; bit++) {
                if ((word >>> bit & 1L) != 0) {
                    if (left == 0) {
                        return bit;
                    }
                    left--;
                }
            }
            return 0;
        }
    }
}
