/**
 * The promises one by one: ordinary inputs, the edges that the document names, and wrong inputs. No
 * object is used for more than 512 calls, as what later ones answer is free.
 */
public final class PromiseTest {
    private static final Class<? extends RuntimeException> PLACE = IndexOutOfBoundsException.class;
    private static final Class<? extends RuntimeException> ARGUMENT = IllegalArgumentException.class;
    private static final Class<? extends RuntimeException> STATE = IllegalStateException.class;
    private static final float JUST_ABOVE_FARTHEST = Math.nextUp(16384f);
    private static final float JUST_ABOVE_MOVEMENT = Math.nextUp(256f);
    private static final float[] NO_MOVEMENTS = {
        JUST_ABOVE_MOVEMENT, -JUST_ABOVE_MOVEMENT, Float.NaN, Float.POSITIVE_INFINITY, Float.NEGATIVE_INFINITY};

    private static int wrong = 0;
    private static String promise = "";

    private interface Call {
        void run();
    }

    private static void same(String what, double got, double want) {
        if (got != want) {
            tell(what + " answered " + got + ", due is " + want);
        }
    }

    private static void holds(String what, boolean got) {
        if (!got) {
            tell(what + " does not hold");
        }
    }

    private static void fails(String what, Class<? extends RuntimeException> due, Call call) {
        Class<?> got = null;
        try {
            call.run();
        } catch (RuntimeException thrown) {
            got = thrown.getClass();
        }
        if (got != due) {
            tell(what + " threw " + got + ", due is " + due);
        }
    }

    private static void tell(String text) {
        wrong++;
        System.out.println(promise + ": " + text);
    }

    private static void pad(PairFinder x, float low, float high) {
        x.low(low, low, low);
        x.high(high, high, high);
    }

    private static int addCube(PairFinder x, float low, float high) {
        pad(x, low, high);
        return x.add(1, 1);
    }

    private static void corners(String what, PairFinder x, int body, int first, float... due) {
        for (int k = 0; k < due.length; k++) {
            same(what + ", corner(" + body + ", " + (first + k) + ")", x.corner(body, first + k), due[k]);
        }
    }

    private static void newObject() {
        promise = "1 a new object";
        PairFinder x = new PairFinder();
        for (int what = 0; what <= 6; what++) {
            same("count(" + what + ")", x.count(what), 0);
        }
        same("nearest()", x.nearest(), PairFinder.NONE);
        for (int body = 0; body < 512; body += 7) {
            int asked = body;
            fails("about(" + body + ", 0)", PLACE, () -> x.about(asked, 0));
        }
        fails("pair(0, 0)", PLACE, () -> x.pair(0, 0));
        fails("found(0)", PLACE, () -> x.found(0));
        same("add with the first pad", x.add(1, 1), 0);
        corners("the first pad is all 0", x, 0, 6, 0, 0, 0, 0, 0, 0);
        PairFinder other = new PairFinder();
        same("another object's bodies", other.count(0), 0);
    }

    private static void lowCorner() {
        promise = "2 low";
        PairFinder x = new PairFinder();
        x.high(16384f, 16384f, 16384f);
        x.low(-16384f, 1.5f, 16384f);
        wrongCorners("low", x::low);
        x.add(1, 1);
        corners("low sets the low corner, and nothing where it throws", x, 0, 6, -16384f, 1.5f, 16384f, 16384f, 16384f, 16384f);
    }

    private static void highCorner() {
        promise = "3 high";
        PairFinder x = new PairFinder();
        x.low(-16384f, -16384f, -16384f);
        x.high(16384f, 1.5f, -16384f);
        wrongCorners("high", x::high);
        x.add(1, 1);
        corners("high sets the high corner, and nothing where it throws", x, 0, 6, -16384f, -16384f, -16384f, 16384f, 1.5f, -16384f);
    }

    private interface Corner {
        void set(float x, float y, float z);
    }

    private static void wrongCorners(String name, Corner corner) {
        float[] bad = {JUST_ABOVE_FARTHEST, -JUST_ABOVE_FARTHEST, Float.NaN, Float.POSITIVE_INFINITY, Float.NEGATIVE_INFINITY};
        for (float number : bad) {
            fails(name + " with x " + number, ARGUMENT, () -> corner.set(number, 2, 3));
            fails(name + " with y " + number, ARGUMENT, () -> corner.set(1, number, 3));
            fails(name + " with z " + number, ARGUMENT, () -> corner.set(1, 2, number));
        }
    }

    private static void add() {
        promise = "4 add";
        PairFinder x = new PairFinder();
        x.low(1, 2, 3);
        x.high(4, 6, 8);
        same("the first add", x.add(5, -7), 0);
        corners("the tight box is the pad", x, 0, 6, 1, 2, 3, 4, 6, 8);
        corners("the wide box is widened by no movement", x, 0, 0, 0.75f, 1.75f, 2.75f, 4.25f, 6.25f, 8.25f);
        same("group", x.about(0, 0), 5);
        same("mask", x.about(0, 1), -7);
        same("touched", x.about(0, 3), 1);
        same("the second add", x.add(1, 1), 1);
        same("the third add", x.add(1, 1), 2);
        x.remove(1);
        x.remove(0);
        same("add takes the lowest number that is not there", x.add(1, 1), 0);
        same("add takes the next lowest one", x.add(1, 1), 1);
        same("add goes on behind the last", x.add(1, 1), 3);
        for (int axis = 0; axis < 3; axis++) {
            x.low(axis == 0 ? 5 : 0, axis == 1 ? 5 : 0, axis == 2 ? 5 : 0);
            x.high(4, 4, 4);
            fails("add where the pad is no box on axis " + axis, ARGUMENT, () -> x.add(1, 1));
        }
        pad(x, 4, 4);
        same("add where low is high, after adds that threw", x.add(1, 1), 4);
        same("there", x.count(0), 5);
        x.addRow(507, 0, 0, 0, 1, 1);
        fails("add where all are there", STATE, () -> x.add(1, 1));
        x.low(5, 0, 0);
        fails("add where the pad is no box and all are there", ARGUMENT, () -> x.add(1, 1));
        same("there in the end", x.count(0), 512);
    }

    private static void addAtTheEdge() {
        PairFinder x = new PairFinder();
        x.low(-16384f, -16384f, -16384f);
        x.high(16384f, 16384f, 16384f);
        same("add of the largest box", x.add(1, 1), 0);
        corners("its wide box may be farther than a number may", x, 0, 0, -16384.25f, -16384.25f, -16384.25f, 16384.25f, 16384.25f, 16384.25f);
    }

    private static void addRow() {
        promise = "5 addRow";
        PairFinder x = new PairFinder();
        pad(x, 0, 1);
        x.addRow(3, 0, 0, 0, 1, 1);
        x.remove(1);
        x.low(1, 2, 3);
        x.high(2, 3, 4);
        same("addRow fills gaps first", x.addRow(3, 10, -20, 256, 6, 9), 4);
        corners("the first of the row", x, 1, 6, 1, 2, 3, 2, 3, 4);
        corners("the second of the row", x, 3, 6, 11, -18, 259, 12, -17, 260);
        corners("the third of the row", x, 4, 6, 21, -38, 515, 22, -37, 516);
        corners("the third's wide box", x, 4, 0, 20.75f, -38.25f, 514.75f, 22.25f, -36.75f, 516.25f);
        same("group", x.about(4, 0), 6);
        same("mask", x.about(4, 1), 9);
        same("touched", x.about(4, 3), 1);
        same("there", x.count(0), 5);
        wrongRows(x);
        same("there after rows that threw", x.count(0), 5);
        same("one alone", x.addRow(1, 256, 256, 256, 1, 1), 5);
        corners("one alone is at the pad", x, 5, 6, 1, 2, 3, 2, 3, 4);
        fails("addRow of one more than there is room for", STATE, () -> x.addRow(507, 0, 0, 0, 1, 1));
        same("there after that", x.count(0), 6);
        same("addRow of all that there is room for", x.addRow(506, 0, 0, 0, 1, 1), 511);
        fails("addRow where all are there", STATE, () -> x.addRow(1, 0, 0, 0, 1, 1));
        fails("addRow where all are there and n is wrong", ARGUMENT, () -> x.addRow(0, 0, 0, 0, 1, 1));
        fails("addRow where all are there and a number would be bad", ARGUMENT, () -> x.addRow(512, 256, 0, 0, 1, 1));
    }

    private static void wrongRows(PairFinder x) {
        for (int n : new int[] {0, -1, 513, Integer.MIN_VALUE, Integer.MAX_VALUE}) {
            fails("addRow of " + n, ARGUMENT, () -> x.addRow(n, 0, 0, 0, 1, 1));
        }
        for (float d : NO_MOVEMENTS) {
            fails("addRow of one with dx " + d, ARGUMENT, () -> x.addRow(1, d, 0, 0, 1, 1));
            fails("addRow of one with dy " + d, ARGUMENT, () -> x.addRow(1, 0, d, 0, 1, 1));
            fails("addRow of one with dz " + d, ARGUMENT, () -> x.addRow(1, 0, 0, d, 1, 1));
        }
        x.low(2.5f, 2, 3);
        fails("addRow where the pad is no box", ARGUMENT, () -> x.addRow(2, 0, 0, 0, 1, 1));
        x.low(1, 2, 3);
    }

    private static void addRowAtTheEdge() {
        PairFinder x = new PairFinder();
        pad(x, 0, 256);
        same("a row up to 16384", x.addRow(64, 256, 0, 0, 1, 1), 63);
        fails("a row beyond 16384 in x", ARGUMENT, () -> x.addRow(65, 256, 0, 0, 1, 1));
        fails("a row beyond 16384 in y", ARGUMENT, () -> x.addRow(65, 0, 256, 0, 1, 1));
        fails("a row beyond 16384 in z", ARGUMENT, () -> x.addRow(65, 0, 0, 256, 1, 1));
        same("a row down to -16384", x.addRow(65, 0, -256, 0, 1, 1), 128);
        fails("a row beyond -16384", ARGUMENT, () -> x.addRow(66, 0, 0, -256, 1, 1));
        same("there", x.count(0), 129);
        PairFinder small = new PairFinder();
        pad(small, 0, 0.1f);
        small.addRow(10, 0.1f, 0, 0, 1, 1);
        float sum = 0;
        for (int k = 1; k < 10; k++) {
            sum = sum + 0.1f;
        }
        same("a row is made by one sum behind the other", small.corner(9, 6), sum);
    }

    private static void move() {
        promise = "6 move";
        PairFinder x = new PairFinder();
        addCube(x, 0, 8);
        x.update();
        pad(x, 0.25f, 8.25f);
        holds("move to the wide box's high edge stays in it", !x.move(0, 5, 5, 5));
        corners("the tight box is the pad", x, 0, 6, 0.25f, 0.25f, 0.25f, 8.25f, 8.25f, 8.25f);
        corners("the wide box is as it was", x, 0, 0, -0.25f, -0.25f, -0.25f, 8.25f, 8.25f, 8.25f);
        pad(x, -0.25f, 7);
        holds("move to the wide box's low edge stays in it", !x.move(0, 0, 0, 0));
        same("untouched", x.about(0, 3), 0);
        x.high(7, 7, 8.5f);
        holds("move out of it in z alone", x.move(0, 4, -0.5f, 0));
        corners("the wide box is the pad, widened", x, 0, 0, -0.5f, -1.5f, -0.5f, 15.25f, 7.25f, 8.75f);
        corners("the tight box is the pad again", x, 0, 6, -0.25f, -0.25f, -0.25f, 7, 7, 8.5f);
        same("touched", x.about(0, 3), 1);
        x.low(-1, -0.25f, -0.25f);
        holds("move out of it on the low side", x.move(0, -256, 256, -0f));
        corners("widened by the longest movements", x, 0, 0, -513.25f, -0.5f, -0.5f, 7.25f, 519.25f, 8.75f);
        x.filter(0, 3, 4);
        x.move(0, 0, 0, 0);
        same("group as it was", x.about(0, 0), 3);
    }

    private static void wrongMoves() {
        PairFinder x = new PairFinder();
        addCube(x, 0, 8);
        x.update();
        pad(x, 100, 108);
        for (int body : new int[] {-1, 1, 511, 512, Integer.MIN_VALUE, Integer.MAX_VALUE}) {
            fails("move(" + body + ")", PLACE, () -> x.move(body, 0, 0, 0));
            fails("move(" + body + ") with a wrong movement", PLACE, () -> x.move(body, 300, 0, 0));
        }
        for (float d : NO_MOVEMENTS) {
            fails("move with dx " + d, ARGUMENT, () -> x.move(0, d, 0, 0));
            fails("move with dy " + d, ARGUMENT, () -> x.move(0, 0, d, 0));
            fails("move with dz " + d, ARGUMENT, () -> x.move(0, 0, 0, d));
        }
        x.low(100, 100, 109);
        fails("move where the pad is no box", ARGUMENT, () -> x.move(0, 0, 0, 0));
        fails("move of none where the pad is no box", PLACE, () -> x.move(1, 0, 0, 0));
        corners("the body is where it was", x, 0, 6, 0, 0, 0, 8, 8, 8);
        same("untouched", x.about(0, 3), 0);
    }

    private static void shift() {
        promise = "7 shift";
        PairFinder x = new PairFinder();
        pad(x, 0, 8);
        x.addRow(5, 20, 0, 0, 1, 1);
        x.remove(2);
        x.update();
        same("shift within the wide boxes", x.shift(1, 4, 0.25f, 0, 0), 0);
        same("the one before is where it was", x.corner(0, 6), 0);
        same("the first of them", x.corner(1, 6), 20.25f);
        same("the last of them", x.corner(4, 9), 88.25f);
        same("shift out of them", x.shift(1, 3, 0.5f, -1, 0), 2);
        corners("the wide box is widened by the movement", x, 1, 0, 20.5f, -3.25f, -0.25f, 30, 7.25f, 8.25f);
        same("the one behind is where it was", x.corner(4, 6), 80.25f);
        same("touched are those alone", x.count(5), 2);
        same("shift of one that is not there", x.shift(2, 2, 100, 0, 0), 0);
        same("shift of all", x.shift(0, 511, 0, 0, -256), 4);
        same("shift counts those that left their wide box alone", x.shift(0, 4, 0.25f, 0, 0), 0);
        wrongShifts(x);
    }

    private static void wrongShifts(PairFinder x) {
        int[][] ranges = {{-1, 0}, {0, 512}, {1, 0}, {511, 510}, {Integer.MIN_VALUE, Integer.MAX_VALUE}, {512, 512}, {-1, -1}};
        float before = x.corner(0, 6);
        for (int[] range : ranges) {
            fails("shift(" + range[0] + ", " + range[1] + ")", PLACE, () -> x.shift(range[0], range[1], 1, 1, 1));
            fails("shift(" + range[0] + ", " + range[1] + ") with a wrong movement", PLACE, () -> x.shift(range[0], range[1], 1, 300, 1));
        }
        for (float d : NO_MOVEMENTS) {
            fails("shift with dx " + d, ARGUMENT, () -> x.shift(0, 4, d, 0, 0));
            fails("shift with dy " + d, ARGUMENT, () -> x.shift(0, 4, 0, d, 0));
            fails("shift with dz " + d, ARGUMENT, () -> x.shift(0, 4, 0, 0, d));
            fails("shift of none with dz " + d, ARGUMENT, () -> x.shift(300, 400, 0, 0, d));
        }
        same("where it was", x.corner(0, 6), before);
    }

    private static void shiftAtTheEdge() {
        PairFinder x = new PairFinder();
        pad(x, 16000, 16128);
        x.add(1, 1);
        addCube(x, -16383, -16382);
        addCube(x, 0, 1);
        same("shift up to 16384", x.shift(0, 2, 0, 256, 0), 3);
        same("at the edge", x.corner(0, 10), 16384);
        same("shift beyond it leaves that one out", x.shift(0, 2, 1, 1, 1), 2);
        corners("the one left out is where it was", x, 0, 6, 16000, 16256, 16000, 16128, 16384, 16128);
        same("the others were moved", x.corner(2, 6), 1);
        same("shift down to -16384", x.shift(1, 1, -2, 0, 0), 1);
        same("at the low edge", x.corner(1, 6), -16384);
        same("shift beyond the low edge", x.shift(1, 2, -1, 0, 0), 1);
        same("still at the low edge", x.corner(1, 6), -16384);
    }

    private static void filter() {
        promise = "8 filter";
        PairFinder x = new PairFinder();
        addCube(x, 0, 8);
        x.add(1, 1);
        x.update();
        x.filter(0, Integer.MIN_VALUE, 7);
        same("group", x.about(0, 0), Integer.MIN_VALUE);
        same("mask", x.about(0, 1), 7);
        same("touched", x.about(0, 3), 1);
        same("the other one's group", x.about(1, 0), 1);
        same("the other one is untouched", x.about(1, 3), 0);
        holds("the pair stays until the update", x.paired(0, 1));
        same("the pair ends", x.update(), 0);
        x.filter(1, 1, 1);
        same("touched by the same group and mask", x.about(1, 3), 1);
        for (int body : new int[] {-1, 2, 512, Integer.MIN_VALUE, Integer.MAX_VALUE}) {
            fails("filter(" + body + ")", PLACE, () -> x.filter(body, 1, 1));
        }
    }

    private static void remove() {
        promise = "9 remove";
        PairFinder x = new PairFinder();
        pad(x, 0, 8);
        x.addRow(4, 8, 0, 0, 1, 1);
        same("pairs of a row that touches", x.update(), 3);
        x.overlapping(1);
        x.update();
        x.filter(3, 0, 0);
        same("one ends", x.update(), 2);
        same("remove tells the pairs with it", x.remove(1), 2);
        same("pairs", x.count(1), 0);
        same("BEGUN stays", x.count(2), 0);
        same("ENDED stays", x.pair(2, 0), 2 * 512 + 3);
        same("FOUND stays", x.found(1), 1);
        same("there", x.count(0), 3);
        fails("remove of one that is not there", PLACE, () -> x.remove(1));
        fails("corner of one that is not there", PLACE, () -> x.corner(1, 0));
        same("remove of one without pairs", x.remove(3), 0);
        same("update after it", x.update(), 0);
        same("no pair ended that the removal took away", x.count(3), 0);
        for (int body : new int[] {-1, 512, Integer.MIN_VALUE, Integer.MAX_VALUE}) {
            fails("remove(" + body + ")", PLACE, () -> x.remove(body));
        }
    }

    private static void removeAndAddAgain() {
        PairFinder x = new PairFinder();
        addCube(x, 0, 8);
        x.add(1, 1);
        x.add(1, 1);
        same("all three pairs", x.update(), 3);
        same("begun", x.count(2), 3);
        same("remove", x.remove(1), 2);
        same("BEGUN stays with the removed one's pairs", x.pair(1, 0), 1);
        same("the pair that stays", x.pair(0, 0), 2);
        same("the touched body that was removed is touched no more", x.count(5), 0);
        x.add(1, 1);
        holds("the new body is no pair before the update", !x.paired(0, 1));
        same("all three again", x.update(), 3);
        same("the new body's pairs begin", x.count(2), 2);
        same("the first of them", x.pair(1, 0), 1);
        same("the second of them", x.pair(1, 1), 512 + 2);
        same("none ended", x.count(3), 0);
        x.filter(2, 1, 1);
        x.remove(2);
        same("a touched body that is removed is not counted", x.count(5), 0);
    }

    private static void update() {
        promise = "10 update";
        PairFinder x = new PairFinder();
        addCube(x, 0, 8);
        addCube(x, 8.5f, 16);
        same("wide boxes that touch are a pair", x.update(), 1);
        same("begun", x.count(2), 1);
        same("untouched", x.count(5), 0);
        same("an update of nothing", x.update(), 1);
        same("nothing begun", x.count(2), 0);
        same("nothing ended", x.count(3), 0);
        same("updates", x.count(4), 2);
        x.remove(1);
        addCube(x, Math.nextUp(8.5f), 16);
        same("wide boxes just apart are none", x.update(), 0);
        same("the removal took the pair away before", x.count(3), 0);
        for (int axis = 0; axis < 3; axis++) {
            apartOnOneAxis(axis);
        }
    }

    private static void apartOnOneAxis(int axis) {
        PairFinder x = new PairFinder();
        addCube(x, 0, 8);
        x.add(1, 1);
        same("together", x.update(), 1);
        float d = 20;
        x.shift(1, 1, axis == 0 ? d : 0, axis == 1 ? d : 0, axis == 2 ? d : 0);
        holds("a pair until the update", x.paired(0, 1));
        same("apart on axis " + axis, x.update(), 0);
        same("ended", x.pair(2, 0), 1);
        x.shift(1, 1, axis == 0 ? -2 * d : 0, axis == 1 ? -2 * d : 0, axis == 2 ? -2 * d : 0);
        same("apart on its other side, but widened over it", x.update(), 0);
        x.shift(0, 0, axis == 0 ? -d : 0, axis == 1 ? -d : 0, axis == 2 ? -d : 0);
        same("together again", x.update(), 1);
        same("begun", x.pair(1, 0), 1);
    }

    private static void updateLetsThrough() {
        int[][] cases = {
            {1, 1, 1, 1, 1}, {1, 2, 2, 1, 1}, {1, 2, 2, 2, 0}, {1, 1, 2, 1, 0}, {0, -1, -1, -1, 0},
            {6, 1, 1, 4, 1}, {Integer.MIN_VALUE, Integer.MIN_VALUE, Integer.MIN_VALUE, Integer.MIN_VALUE, 1}};
        for (int[] c : cases) {
            PairFinder x = new PairFinder();
            pad(x, 0, 8);
            x.add(c[0], c[1]);
            x.add(c[2], c[3]);
            same("groups and masks " + java.util.Arrays.toString(c), x.update(), c[4]);
        }
    }

    private static void updateRefuses() {
        PairFinder x = new PairFinder();
        pad(x, 0, 8);
        x.addRow(181, 0, 0, 0, 1, 1);
        same("181 bodies in one place", x.update(), 181 * 180 / 2);
        x.remove(180);
        x.remove(179);
        same("of 179 bodies", x.update(), 179 * 178 / 2);
        x.filter(0, 1, 0);
        same("without one's pairs", x.update(), 178 * 177 / 2);
        same("ended", x.count(3), 178);
        x.addRow(4, 0, 0, 0, 1, 1);
        fails("more than 16384", STATE, x::update);
        same("pairs stay", x.count(1), 178 * 177 / 2);
        same("ended stay", x.count(3), 178);
        same("begun stay", x.count(2), 0);
        same("updates stay", x.count(4), 3);
        same("touched stay", x.count(5), 4);
        fails("more than 16384 again", STATE, x::update);
        x.remove(182);
        same("fewer again", x.update(), 181 * 180 / 2);
        same("begun since the update that did not throw", x.count(2), 181 * 180 / 2 - 178 * 177 / 2);
    }

    /** 181 bodies in one place make 16290 pairs; a chain of bodies elsewhere makes the rest. */
    private static void updateAtItsMost() {
        PairFinder x = new PairFinder();
        pad(x, 0, 8);
        x.addRow(181, 0, 0, 0, 1, 1);
        pad(x, 100, 108);
        x.addRow(95, 8.25f, 0, 0, 1, 1);
        same("16384 pairs", x.update(), 16384);
        same("the last pair", x.pair(0, 16383), 274 * 512 + 275);
        fails("no pair behind it", PLACE, () -> x.pair(0, 16384));
        x.shift(275, 275, 0, 50, 0);
        same("one ended", x.update(), 16383);
        pad(x, 100, 108);
        x.add(1, 1);
        fails("16385 pairs", STATE, x::update);
    }

    private static void pair() {
        promise = "11 pair";
        PairFinder x = new PairFinder();
        pad(x, 0, 8);
        x.addRow(512, 8.25f, 0, 0, 1, 1);
        same("a chain of all", x.update(), 511);
        for (int k = 0; k < 511; k += 5) {
            same("pair(0, " + k + ")", x.pair(0, k), k * 512 + k + 1);
            same("pair(1, " + k + ")", x.pair(1, k), k * 512 + k + 1);
        }
        fails("pair(2, 0)", PLACE, () -> x.pair(2, 0));
        x.filter(10, 0, 0);
        x.filter(500, 0, 0);
        x.update();
        int[] ended = {9 * 512 + 10, 10 * 512 + 11, 499 * 512 + 500, 500 * 512 + 501};
        for (int k = 0; k < ended.length; k++) {
            same("pair(2, " + k + ")", x.pair(2, k), ended[k]);
        }
        same("pair(0, 9)", x.pair(0, 9), 11 * 512 + 12);
        same("the last pair", x.pair(0, 506), 510 * 512 + 511);
        int[][] wrongPlaces = {{0, -1}, {0, 507}, {1, 0}, {2, 4}, {2, -1}, {-1, 0}, {3, 0}, {0, Integer.MIN_VALUE},
            {0, Integer.MAX_VALUE}, {Integer.MIN_VALUE, 0}, {Integer.MAX_VALUE, 0}};
        for (int[] place : wrongPlaces) {
            fails("pair(" + place[0] + ", " + place[1] + ")", PLACE, () -> x.pair(place[0], place[1]));
        }
    }

    private static void paired() {
        promise = "12 paired";
        PairFinder x = new PairFinder();
        pad(x, 0, 8);
        x.addRow(3, 8.25f, 0, 0, 1, 1);
        holds("none before the update", !x.paired(0, 1));
        x.update();
        holds("a pair", x.paired(0, 1));
        holds("a pair in the other order", x.paired(1, 0));
        holds("no pair", !x.paired(0, 2) && !x.paired(2, 0));
        holds("a body and itself are none", !x.paired(1, 1));
        int[][] wrongBodies = {{0, 3}, {3, 0}, {-1, 0}, {0, -1}, {512, 0}, {0, 512}, {Integer.MIN_VALUE, 0}, {0, Integer.MAX_VALUE}, {3, 3}};
        for (int[] body : wrongBodies) {
            fails("paired(" + body[0] + ", " + body[1] + ")", PLACE, () -> x.paired(body[0], body[1]));
        }
        x.remove(1);
        fails("paired with a removed one", PLACE, () -> x.paired(0, 1));
    }

    private static void overlapping() {
        promise = "13 overlapping";
        PairFinder x = new PairFinder();
        pad(x, 0, 8);
        x.add(1, 0);
        pad(x, 10, 18);
        x.add(2, 0);
        x.add(4, 0);
        x.remove(2);
        pad(x, 8.25f, 9.75f);
        same("the pad touches both wide boxes", x.overlapping(-1), 2);
        same("found(0)", x.found(0), 0);
        same("found(1)", x.found(1), 1);
        same("where(0)", x.where(0), 0);
        same("where(1)", x.where(1), 0);
        same("by the mask", x.overlapping(2), 1);
        same("found(0) by the mask", x.found(0), 1);
        x.low(Math.nextUp(8.25f), 8, 8);
        same("just apart in x", x.overlapping(1), 0);
        pad(x, 8.25f, 9.75f);
        x.high(9.75f, Math.nextDown(9.75f), 9.75f);
        same("just apart from the other one in y", x.overlapping(-1), 1);
        x.low(8, 8, 9);
        x.high(9, 9, 8);
        fails("the pad is no box", ARGUMENT, () -> x.overlapping(-1));
        same("FOUND stays where it throws", x.count(6), 1);
        pad(x, 8, 9);
        same("no mask", x.overlapping(0), 0);
        same("FOUND is empty", x.count(6), 0);
        pad(x, 4, 4);
        same("a point in a box", x.overlapping(1), 1);
        pad(x, -100, 100);
        x.meeting(-1);
        x.low(1, 1, 1);
        x.overlapping(-1);
        same("0 each, whatever was there before", x.where(1), 0);
        same("update makes nothing of it", x.count(4), 0);
    }

    private static void meeting() {
        promise = "14 meeting";
        PairFinder x = new PairFinder();
        x.low(16, 0, 0);
        x.high(24, 8, 8);
        x.add(1, 0);
        x.low(64, 0, 0);
        x.high(72, 8, 8);
        x.add(2, 0);
        x.add(8, 0);
        x.remove(2);
        line(x, 0, 4, 4, 128, 4, 4);
        same("both are met", x.meeting(3), 2);
        same("where the first is entered", x.where(0), 15.75f / 128);
        same("where the second is entered", x.where(1), 63.75f / 128);
        same("nearest", x.nearest(), 0);
        line(x, 128, 4, 4, 0, 4, 4);
        same("from the other end, where the pad is no box", x.meeting(-1), 2);
        same("entered there", x.where(1), (72.25f - 128) / -128);
        same("nearest from there", x.nearest(), 1);
        same("by the mask", x.meeting(1), 1);
        line(x, 0, 4, 4, 15.75f, 4, 4);
        same("a line that ends at the box", x.meeting(-1), 1);
        same("entered at its end", x.where(0), 1);
        line(x, 0, 4, 4, Math.nextDown(15.75f), 4, 4);
        same("a line that ends before it", x.meeting(-1), 0);
        same("FOUND is empty", x.count(6), 0);
        line(x, 24.25f, 4, 4, 40, 4, 4);
        same("a line that begins at the box's end", x.meeting(-1), 1);
        same("entered at its beginning", x.where(0), 0);
        line(x, Math.nextUp(24.25f), 4, 4, 40, 4, 4);
        same("a line that begins behind it", x.meeting(-1), 0);
    }

    private static void meetingEdges() {
        PairFinder x = new PairFinder();
        addCube(x, 0, 8);
        line(x, 4, 4, 4, 4, 4, 4);
        same("a point inside", x.meeting(1), 1);
        same("entered at 0", x.where(0), 0);
        float[] at = {-0.25f, 8.25f, Math.nextDown(-0.25f), Math.nextUp(8.25f)};
        for (int k = 0; k < at.length; k++) {
            int due = k < 2 ? 1 : 0;
            line(x, at[k], 4, 4, at[k], 4, 4);
            same("a point at x " + at[k], x.meeting(1), due);
            line(x, -9, at[k], 4, 9, at[k], 4);
            same("a line along x at y " + at[k], x.meeting(1), due);
            line(x, -9, 4, at[k], 9, 4, at[k]);
            same("a line along x at z " + at[k], x.meeting(1), due);
        }
        line(x, -8.25f, 0.25f, 4, 7.75f, 16.25f, 4);
        same("a line that touches an edge", x.meeting(1), 1);
        same("entered at the edge", x.where(0), 0.5f);
        line(x, -8.25f, 0.5f, 4, 7.75f, 16.5f, 4);
        same("a line that misses the edge", x.meeting(1), 0);
        line(x, 0, 0, 0, Float.MIN_VALUE, Float.MIN_VALUE, -Float.MIN_VALUE);
        same("a line as short as can be, inside", x.meeting(1), 1);
        same("entered at 0 there", x.where(0), 0);
        line(x, 9, 0, 0, 9, Float.MIN_VALUE, 0);
        same("a line as short as can be, outside", x.meeting(1), 0);
        line(x, 2, -16384, 3, 2, 16384, 3);
        same("a long line", x.meeting(1), 1);
        same("where it is entered", x.where(0), (-0.25f + 16384) / 32768);
        line(x, 1, 1, 1, 3, 10, -2);
        same("a line from inside", x.meeting(1), 1);
        same("it is entered at 0", x.where(0), 0);
        same("no mask", x.meeting(0), 0);
    }

    private static void line(PairFinder x, float ax, float ay, float az, float bx, float by, float bz) {
        x.low(ax, ay, az);
        x.high(bx, by, bz);
    }

    private static void foundAndWhere() {
        promise = "15, 16 found and where";
        PairFinder x = new PairFinder();
        pad(x, 0, 8);
        x.addRow(512, 1, 0, 0, 1, 1);
        line(x, 512, 4, 4, 0, 4, 4);
        same("all are met", x.meeting(1), 512);
        for (int k = 0; k < 512; k += 7) {
            float enter = (k + 8.25f - 512) / -512;
            same("found(" + k + ")", x.found(k), k);
            same("where(" + k + ")", x.where(k), enter > 0 ? enter : 0);
        }
        for (int k : new int[] {-1, 512, Integer.MIN_VALUE, Integer.MAX_VALUE}) {
            fails("found(" + k + ")", PLACE, () -> x.found(k));
            fails("where(" + k + ")", PLACE, () -> x.where(k));
        }
        x.remove(7);
        same("FOUND stays with a removed body", x.found(7), 7);
        pad(x, 2, 3);
        int few = x.overlapping(1);
        same("few overlap", few, 4);
        fails("found behind the last", PLACE, () -> x.found(few));
        fails("where behind the last", PLACE, () -> x.where(few));
    }

    private static void nearest() {
        promise = "17 nearest";
        PairFinder x = new PairFinder();
        addCube(x, 50, 58);
        addCube(x, 20, 28);
        addCube(x, 20, 28);
        addCube(x, 80, 88);
        same("of an empty FOUND", x.nearest(), PairFinder.NONE);
        line(x, 0, 0, 0, 100, 100, 100);
        same("all are met", x.meeting(1), 4);
        same("the least, the lowest of two", x.nearest(), 1);
        line(x, 100, 100, 100, 0, 0, 0);
        x.meeting(1);
        same("from the other end", x.nearest(), 3);
        pad(x, 0, 100);
        x.overlapping(1);
        same("where all are 0", x.nearest(), 0);
        x.overlapping(2);
        same("of FOUND that became empty", x.nearest(), PairFinder.NONE);
    }

    private static void corner() {
        promise = "18 corner";
        PairFinder x = new PairFinder();
        line(x, 1, 2, 3, 4, 5, 6);
        x.add(1, 1);
        corners("wide, then tight", x, 0, 0, 0.75f, 1.75f, 2.75f, 4.25f, 5.25f, 6.25f, 1, 2, 3, 4, 5, 6);
        for (int what : new int[] {-1, 12, Integer.MIN_VALUE, Integer.MAX_VALUE}) {
            fails("corner(0, " + what + ")", PLACE, () -> x.corner(0, what));
        }
        for (int body : new int[] {-1, 1, 511, 512, Integer.MIN_VALUE, Integer.MAX_VALUE}) {
            fails("corner(" + body + ", 0)", PLACE, () -> x.corner(body, 0));
        }
    }

    private static void about() {
        promise = "19 about";
        PairFinder x = new PairFinder();
        pad(x, 0, 8);
        x.addRow(3, 8.25f, 0, 0, 3, 1);
        same("group", x.about(1, 0), 3);
        same("mask", x.about(1, 1), 1);
        same("pairs before the update", x.about(1, 2), 0);
        same("touched before the update", x.about(1, 3), 1);
        x.update();
        same("pairs of the first", x.about(0, 2), 1);
        same("pairs of the middle", x.about(1, 2), 2);
        same("pairs of the last", x.about(2, 2), 1);
        same("touched after the update", x.about(1, 3), 0);
        x.remove(0);
        same("pairs after a removal", x.about(1, 2), 1);
        same("a removal touches no other", x.about(1, 3), 0);
        for (int what : new int[] {-1, 4, Integer.MIN_VALUE, Integer.MAX_VALUE}) {
            fails("about(1, " + what + ")", PLACE, () -> x.about(1, what));
        }
        for (int body : new int[] {-1, 0, 3, 511, 512, Integer.MIN_VALUE, Integer.MAX_VALUE}) {
            fails("about(" + body + ", 0)", PLACE, () -> x.about(body, 0));
        }
    }

    private static void count() {
        promise = "20 count";
        PairFinder x = new PairFinder();
        pad(x, 0, 8);
        x.addRow(4, 8.25f, 0, 0, 1, 1);
        counts(x, "before the update", 4, 0, 0, 0, 0, 4, 0);
        x.update();
        counts(x, "after the update", 4, 3, 3, 0, 1, 0, 0);
        x.filter(3, 0, 0);
        pad(x, 8, 9);
        x.overlapping(-1);
        counts(x, "after a filter and a search", 4, 3, 3, 0, 1, 1, 2);
        x.update();
        counts(x, "after the second update", 4, 2, 0, 1, 2, 0, 2);
        x.remove(0);
        counts(x, "after a removal", 3, 1, 0, 1, 2, 0, 2);
        for (int what : new int[] {-1, 7, Integer.MIN_VALUE, Integer.MAX_VALUE}) {
            fails("count(" + what + ")", PLACE, () -> x.count(what));
        }
    }

    private static void counts(PairFinder x, String when, int... due) {
        for (int what = 0; what < due.length; what++) {
            same("count(" + what + ") " + when, x.count(what), due[what]);
        }
    }

    public static void main(String[] args) {
        newObject();
        lowCorner();
        highCorner();
        add();
        addAtTheEdge();
        addRow();
        addRowAtTheEdge();
        move();
        wrongMoves();
        shift();
        shiftAtTheEdge();
        filter();
        remove();
        removeAndAddAgain();
        update();
        updateLetsThrough();
        updateRefuses();
        updateAtItsMost();
        pair();
        paired();
        overlapping();
        meeting();
        meetingEdges();
        foundAndWhere();
        nearest();
        corner();
        about();
        count();
        System.out.println(wrong == 0 ? "the promises hold" : wrong + " answers are not as due");
        if (wrong != 0) {
            System.exit(1);
        }
    }
}
