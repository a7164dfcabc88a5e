/** The edges that promises 1 to 9 name, each sentence by itself: the pad, and bodies that come, move and go. */
public final class BodiesEdgeTest {
    private static final Refusals OF_EMPTY = new Refusals(x -> { });
    private static final Refusals OF_BUSY = new Refusals(Due::busy);
    private static final Refusals OF_FULL = new Refusals(Due::full);
    /** Half of the step between the farthest number and the next float: a sum with it is still the farthest. */
    private static final float LOST = 1 / 1024f;

    private static void aNewObjectHasNothing() {
        Due.sentence("1 A new object", "no bodies, no pairs");
        PairFinder x = new PairFinder();
        for (int what = 0; what <= 6; what++) {
            Due.same("count(" + what + ")", x.count(what), 0);
        }
        for (int which = 0; which <= 2; which++) {
            int asked = which;
            Due.fails("pair(" + which + ", 0)", Due.PLACE, x, y -> y.pair(asked, 0));
        }
        Due.same("update()", x.update(), 0);
        Due.same("overlapping(-1)", x.overlapping(-1), 0);
        Due.same("meeting(-1)", x.meeting(-1), 0);
        Due.same("shift(0, 511, ..)", x.shift(0, 511, 1, 1, 1), 0);
        PairFinder bodies = new PairFinder();
        for (int body = 0; body < 512; body++) {
            int asked = body;
            Due.fails("about(" + body + ", 0)", Due.PLACE, bodies, y -> y.about(asked, 0));
        }
    }

    private interface Corner {
        void set(PairFinder x, float[] to);
    }

    private static void lowAndHigh() {
        cornerOfThePad("2 low", 6, (x, to) -> x.low(to[0], to[1], to[2]));
        cornerOfThePad("3 high", 9, (x, to) -> x.high(to[0], to[1], to[2]));
    }

    private static void cornerOfThePad(String promise, int first, Corner corner) {
        Due.sentence(promise, "the pad's corner becomes this");
        float[] taken = {Due.FARTHEST, -Due.FARTHEST, Math.nextDown(Due.FARTHEST), -0f, 0, Float.MIN_VALUE, -Float.MIN_VALUE};
        for (int axis = 0; axis < 3; axis++) {
            for (float number : taken) {
                PairFinder x = Due.after(y -> Due.pad(y, -Due.FARTHEST, Due.FARTHEST));
                float[] to = Due.on(axis, number, 7);
                corner.set(x, to);
                x.add(1, 1);
                Due.corners(number + " on axis " + axis, x, 0, first, to);
                float other = first == 6 ? Due.FARTHEST : -Due.FARTHEST;
                Due.corners("the other corner stays", x, 0, 15 - first, other, other, other);
            }
        }
        Due.sentence(promise, "IllegalArgumentException: a number is bad");
        for (float bad : Due.BAD) {
            for (int axis = 0; axis < 3; axis++) {
                float[] to = Due.on(axis, bad, 7);
                OF_EMPTY.refused(bad + " on axis " + axis, Due.ARGUMENT, x -> corner.set(x, to));
                OF_BUSY.refused(bad + " on axis " + axis, Due.ARGUMENT, x -> corner.set(x, to));
            }
            OF_FULL.refused(bad + " on all", Due.ARGUMENT, x -> corner.set(x, new float[] {bad, bad, bad}));
        }
    }

    private static void addTakesTheLowestNumber() {
        Due.sentence("4 add", "that with the lowest number that was not");
        Due.same("the first of all", new PairFinder().add(0, 0), 0);
        for (int gap : new int[] {0, 1, 255, 256, 510, 511}) {
            PairFinder x = Due.after(Due::full);
            x.remove(gap);
            Due.same("the only one that was not there", x.add(1, 1), gap);
            Due.fails("add behind it", Due.STATE, x, y -> y.add(1, 1));
        }
        PairFinder x = Due.after(Due::full);
        for (int body : new int[] {511, 300, 0, 301}) {
            x.remove(body);
        }
        for (int due : new int[] {0, 300, 301, 511}) {
            Due.same("the next gap", x.add(1, 1), due);
        }
        Due.fails("add where no gap is left", Due.STATE, x, y -> y.add(1, 1));

        Due.sentence("4 add", "with the pad as its tight box, widened by no movement as its wide one");
        PairFinder far = Due.after(y -> Due.pad(y, -Due.FARTHEST, Due.FARTHEST));
        for (int what : new int[] {Integer.MIN_VALUE, Integer.MAX_VALUE, -1, 0}) {
            int body = far.add(what, ~what);
            Due.same("any group", far.about(body, 0), what);
            Due.same("any mask", far.about(body, 1), ~what);
        }
        Due.corners("the farthest tight box", far, 0, 6, -16384, -16384, -16384, 16384, 16384, 16384);
        Due.corners("its wide box is beyond", far, 0, 0, -16384.25f, -16384.25f, -16384.25f, 16384.25f, 16384.25f, 16384.25f);
    }

    private static void addRefuses() {
        Due.sentence("4 add", "IllegalArgumentException: the pad is no box");
        for (int axis = 0; axis < 3; axis++) {
            Due.Calls noBox = noBox(axis);
            refusedWithThisPad("add, axis " + axis, Due.ARGUMENT, noBox, x -> x.add(1, 1));
        }
        Due.sentence("4 add", "IllegalStateException: all are there");
        OF_FULL.refused("add", Due.STATE, x -> x.add(1, 1));
        OF_FULL.refused("add of nothing", Due.STATE, x -> x.add(0, 0));
        PairFinder x = Due.after(y -> y.addRow(511, 0, 0, 0, 1, 1));
        Due.same("511 are there", x.add(1, 1), 511);
        Due.fails("512 are there", Due.STATE, x, y -> y.add(1, 1));
    }

    /** The pad's low is just above its high on the axis alone. */
    private static Due.Calls noBox(int axis) {
        return x -> Due.line(x, Due.on(axis, Math.nextUp(3f), 1), Due.on(axis, 3, 2));
    }

    private static void refusedWithThisPad(String what, Class<? extends RuntimeException> due, Due.Calls pad, Due.Calls call) {
        new Refusals(pad).refused(what + ", of none", due, call);
        new Refusals(x -> { Due.busy(x); pad.on(x); }).refused(what + ", of some", due, call);
        new Refusals(x -> { Due.full(x); pad.on(x); }).refused(what + ", of all (argument before state)", due, call);
    }

    private static void addRowOfOneTo512() {
        Due.sentence("5 addRow", "IllegalArgumentException: n is not 1 .. 512");
        PairFinder one = new PairFinder();
        Due.same("one", one.addRow(1, 256, 256, 256, 1, 1), 0);
        Due.corners("it is at the pad", one, 0, 6, 0, 0, 0, 0, 0, 0);
        PairFinder all = new PairFinder();
        Due.same("512", all.addRow(512, 32, -32, 0, 1, 1), 511);
        Due.corners("the last one", all, 511, 6, 511 * 32, -511 * 32, 0, 511 * 32, -511 * 32, 0);
        Due.same("511", new PairFinder().addRow(511, 0, 0, 0, 1, 1), 510);
        for (int n : new int[] {0, 513, -1, -512, Integer.MIN_VALUE, Integer.MAX_VALUE}) {
            OF_EMPTY.refused("addRow of " + n, Due.ARGUMENT, x -> x.addRow(n, 0, 0, 0, 1, 1));
            OF_BUSY.refused("addRow of " + n, Due.ARGUMENT, x -> x.addRow(n, 0, 0, 0, 1, 1));
            OF_FULL.refused("addRow of " + n + " (argument before state)", Due.ARGUMENT, x -> x.addRow(n, 0, 0, 0, 1, 1));
        }
    }

    private static void addRowFillsGaps() {
        Due.sentence("5 addRow", "adds n bodies so, one behind the other: the number of the last one");
        PairFinder x = Due.after(Due::full);
        for (int body : new int[] {0, 77, 511}) {
            x.remove(body);
        }
        Due.pad(x, 1, 2);
        Due.same("the last of two", x.addRow(2, 10, 20, 30, 4, 8), 77);
        Due.corners("the first", x, 0, 6, 1, 1, 1, 2, 2, 2);
        Due.corners("the second", x, 77, 6, 11, 21, 31, 12, 22, 32);
        Due.corners("the second's wide box is widened by no movement", x, 77, 0, 10.75f, 20.75f, 30.75f, 12.25f, 22.25f, 32.25f);
        Due.same("the second's group", x.about(77, 0), 4);
        Due.same("the second's mask", x.about(77, 1), 8);
        Due.same("all but one are there", x.count(0), 511);
        Due.same("the last gap", x.addRow(1, 0, 0, 0, 1, 1), 511);
    }

    private static void addRowRefusesPadsAndMovements() {
        Due.sentence("5 addRow", "IllegalArgumentException: the pad is no box");
        for (int axis = 0; axis < 3; axis++) {
            refusedWithThisPad("addRow, axis " + axis, Due.ARGUMENT, noBox(axis), x -> x.addRow(1, 0, 0, 0, 1, 1));
        }
        Due.sentence("5 addRow", "IllegalArgumentException: dx, dy or dz is not -256 .. 256");
        for (int axis = 0; axis < 3; axis++) {
            for (float d : new float[] {256, -256, 0, -0f, Float.MIN_VALUE, -Float.MIN_VALUE}) {
                float[] by = Due.on(axis, d, 0);
                PairFinder x = new PairFinder();
                Due.same("a movement of " + d, x.addRow(2, by[0], by[1], by[2], 1, 1), 1);
                Due.corners("by " + d + " on axis " + axis, x, 1, 6, by[0], by[1], by[2], by[0], by[1], by[2]);
            }
            for (float d : Due.NO_MOVEMENTS) {
                float[] by = Due.on(axis, d, 0);
                OF_EMPTY.refused("addRow of one by " + d, Due.ARGUMENT, x -> x.addRow(1, by[0], by[1], by[2], 1, 1));
                OF_BUSY.refused("addRow of two by " + d, Due.ARGUMENT, x -> x.addRow(2, by[0], by[1], by[2], 1, 1));
            }
            float[] by = Due.on(axis, Math.nextUp(256f), 0);
            OF_FULL.refused("addRow (argument before state)", Due.ARGUMENT, x -> x.addRow(1, by[0], by[1], by[2], 1, 1));
        }
    }

    private static void addRowRefusesBadNumbers() {
        Due.sentence("5 addRow", "IllegalArgumentException: or a number would be bad");
        for (int axis = 0; axis < 3; axis++) {
            for (int side : new int[] {1, -1}) {
                float[] by = Due.on(axis, side * 256, 0);
                float[] edge = Due.on(axis, side * (Due.FARTHEST - 512), side * 5);
                Due.Calls pad = x -> Due.line(x, edge, edge);
                PairFinder x = Due.after(pad);
                Due.same("up to the farthest", x.addRow(3, by[0], by[1], by[2], 1, 1), 2);
                Due.same("it is there", x.corner(2, 6 + axis), side * Due.FARTHEST);
                refusedWithThisPad("addRow beyond, axis " + axis, Due.ARGUMENT, pad, y -> y.addRow(4, by[0], by[1], by[2], 1, 1));
                oneCornerBeyond(axis, side);
                sumsAreRounded(axis, side);
            }
        }
        Due.same("one alone at the farthest, whatever the movement", Due.after(y -> Due.pad(y, -16384, 16384)).addRow(1, 256, -256, 1, 1, 1), 0);
        Due.Calls farthest = y -> Due.pad(y, -16384, 16384);
        refusedWithThisPad("two there", Due.ARGUMENT, farthest, y -> y.addRow(2, 1, 0, 0, 1, 1));
        Due.same("two there without movement", Due.after(farthest).addRow(2, 0, -0f, 0, 1, 1), 1);
    }

    /** Only one corner of the box is near the farthest; the other one is far from it all along. */
    private static void oneCornerBeyond(int axis, int side) {
        float[] by = Due.on(axis, side, 0);
        float[] near = Due.on(axis, side * (Due.FARTHEST - 3), 0);
        float[] away = Due.on(axis, 0, 0);
        Due.Calls pad = x -> Due.line(x, side > 0 ? away : near, side > 0 ? near : away);
        Due.same("one corner up to the farthest", Due.after(pad).addRow(4, by[0], by[1], by[2], 1, 1), 3);
        new Refusals(pad).refused("one corner beyond, axis " + axis, Due.ARGUMENT, x -> x.addRow(5, by[0], by[1], by[2], 1, 1));
    }

    private static void sumsAreRounded(int axis, int side) {
        float[] edge = Due.on(axis, side * Due.FARTHEST, 0);
        float[] taken = Due.on(axis, side * LOST, 0);
        float[] refused = Due.on(axis, side * Math.nextUp(LOST), 0);
        Due.Calls pad = x -> Due.line(x, edge, edge);
        Due.same("a sum that is rounded to the farthest", Due.after(pad).addRow(512, taken[0], taken[1], taken[2], 1, 1), 511);
        new Refusals(pad).refused("a sum that is rounded beyond it", Due.ARGUMENT, x -> x.addRow(2, refused[0], refused[1], refused[2], 1, 1));
    }

    private static void addRowRefusesTooMany() {
        Due.sentence("5 addRow", "IllegalStateException: fewer than n are not there");
        OF_FULL.refused("one where none is left", Due.STATE, x -> x.addRow(1, 0, 0, 0, 1, 1));
        OF_FULL.refused("all where none is left", Due.STATE, x -> x.addRow(512, 0, 0, 0, 1, 1));
        for (int left : new int[] {1, 2, 100, 511}) {
            Due.Calls calls = x -> {
                x.addRow(512 - left, 1, 0, 0, 1, 1);
                x.remove(0);
                x.add(1, 1);
            };
            new Refusals(calls).refused("one more than the " + left + " left", Due.STATE, x -> x.addRow(left + 1, 0, 0, 0, 1, 1));
            Due.same("the " + left + " left", Due.after(calls).addRow(left, 0, 0, 0, 1, 1), 511);
        }
        Due.Calls gaps = x -> {
            Due.full(x);
            x.remove(9);
            x.remove(400);
        };
        new Refusals(gaps).refused("three in two gaps", Due.STATE, x -> x.addRow(3, 0, 0, 0, 1, 1));
        Due.same("two in two gaps", Due.after(gaps).addRow(2, 0, 0, 0, 1, 1), 400);
    }

    private static void moveToThePad() {
        Due.sentence("6 move", "a body's tight box becomes the pad; if that does not lie in its wide box, this becomes the pad, widened: whether it did");
        PairFinder x = Due.after(Due::full);
        for (int body : new int[] {0, 511}) {
            float at = x.corner(body, 0);
            x.low(at, -0.25f, -0.25f);
            x.high(at + 8.5f, 8.25f, 8.25f);
            Due.holds("to the very wide box", !x.move(body, 256, 256, 256));
            Due.corners("the tight box", x, body, 6, at, -0.25f, -0.25f, at + 8.5f, 8.25f, 8.25f);
            Due.corners("the wide box stays", x, body, 0, at, -0.25f, -0.25f, at + 8.5f, 8.25f, 8.25f);
            x.low(at, -0.25f, Math.nextDown(-0.25f));
            Due.holds("just out of it", x.move(body, -256, 0, 256));
            Due.corners("the wide box", x, body, 0, at - 0.25f - 512, -0.5f, Math.nextDown(-0.25f) - 0.25f, at + 8.75f, 8.5f, 520.5f);
        }
        Due.same("these two and body 3 are touched", x.count(5), 3);
    }

    private static void moveRefuses() {
        Due.sentence("6 move", "IndexOutOfBoundsException");
        for (int body : Due.NO_BODIES) {
            OF_FULL.refused("move(" + body + ")", Due.PLACE, x -> x.move(body, 0, 0, 0));
        }
        for (int body : new int[] {5, 8, 511, -1, 512}) {
            OF_BUSY.refused("move(" + body + ")", Due.PLACE, x -> x.move(body, 0, 0, 0));
            OF_BUSY.refused("move(" + body + ") (place before argument)", Due.PLACE, x -> x.move(body, Float.NaN, 0, 0));
        }
        OF_EMPTY.refused("move(0)", Due.PLACE, x -> x.move(0, 0, 0, 0));

        Due.sentence("6 move", "IllegalArgumentException: the pad is no box");
        for (int axis = 0; axis < 3; axis++) {
            Due.Calls noBox = noBox(axis);
            Refusals refusals = new Refusals(x -> { Due.busy(x); noBox.on(x); });
            refusals.refused("axis " + axis, Due.ARGUMENT, x -> x.move(0, 0, 0, 0));
            refusals.refused("axis " + axis + " (place before argument)", Due.PLACE, x -> x.move(5, 0, 0, 0));
        }
        Due.holds("a point is a box", !Due.after(x -> { Due.busy(x); Due.pad(x, 3, 3); }).move(0, 0, 0, 0));

        Due.sentence("6 move", "IllegalArgumentException: dx, dy or dz is not -256 .. 256");
        Refusals away = new Refusals(x -> { Due.busy(x); Due.pad(x, 300, 301); });
        for (int axis = 0; axis < 3; axis++) {
            for (float d : Due.NO_MOVEMENTS) {
                float[] by = Due.on(axis, d, 0);
                OF_BUSY.refused("within the wide box by " + d, Due.ARGUMENT, x -> x.move(0, by[0], by[1], by[2]));
                away.refused("out of the wide box by " + d, Due.ARGUMENT, x -> x.move(0, by[0], by[1], by[2]));
            }
            for (float d : new float[] {256, -256}) {
                float[] by = Due.on(axis, d, 0);
                PairFinder x = Due.after(y -> { Due.busy(y); Due.pad(y, 300, 301); });
                Due.holds("by " + d, x.move(0, by[0], by[1], by[2]));
                Due.same("widened by it", x.corner(0, (d < 0 ? 0 : 3) + axis), d < 0 ? 299.75f - 512 : 301.25f + 512);
            }
        }
    }

    private static void shiftFromTo() {
        Due.sentence("7 shift", "the bodies from .. to that are there are moved so");
        Due.Calls five = x -> {
            x.addRow(5, 0, 0, 0, 1, 1);
            x.remove(2);
            x.update();
        };
        int[][] ranges = {{1, 3}, {1, 1}, {0, 0}, {0, 511}, {4, 511}, {0, 1}};
        for (int[] range : ranges) {
            PairFinder x = Due.after(five);
            int moved = 0;
            int answered = x.shift(range[0], range[1], 1, 2, 3);
            for (int body : new int[] {0, 1, 3, 4}) {
                boolean in = body >= range[0] && body <= range[1];
                moved += in ? 1 : 0;
                Due.same(range[0] + " .. " + range[1] + ", body " + body, x.corner(body, 8), in ? 3 : 0);
                Due.same(range[0] + " .. " + range[1] + ", body " + body + " touched", x.about(body, 3), in ? 1 : 0);
            }
            Due.same(range[0] + " .. " + range[1], answered, moved);
        }
        for (int[] range : new int[][] {{2, 2}, {5, 511}, {511, 511}}) {
            PairFinder x = Due.after(five);
            Due.same("none is there", x.shift(range[0], range[1], 256, 0, 0), 0);
            Due.same("none is touched", x.count(5), 0);
        }
        PairFinder full = Due.after(Due::full);
        Due.same("all 512", full.shift(0, 511, 0, 0, 1), 512);
        Due.same("the last alone", full.shift(511, 511, 0, -4, 0), 1);
        Due.same("without movement", full.shift(0, 511, 0, -0f, 0), 0);
    }

    private static void shiftCountsWideBoxesAlone() {
        Due.sentence("7 shift", "of how many the wide box became another one");
        for (int axis = 0; axis < 3; axis++) {
            for (int side : new int[] {1, -1}) {
                PairFinder x = Due.after(y -> { Due.pad(y, 0, 0); y.addRow(2, 0, 0, 0, 1, 1); });
                float[] edge = Due.on(axis, side * 0.25f, 0);
                Due.same("to the wide box's edge", x.shift(0, 1, edge[0], edge[1], edge[2]), 0);
                Due.same("the tight box is there", x.corner(1, 6 + axis), side * 0.25f);
                float[] tiny = Due.on(axis, side * (Math.nextUp(0.25f) - 0.25f), 0);
                Due.same("one float on", x.shift(1, 1, tiny[0], tiny[1], tiny[2]), 1);
                Due.same("of two one", x.shift(0, 1, tiny[0], tiny[1], tiny[2]), 1);
            }
        }
    }

    private static void shiftLeavesOutWhatWouldBeBad() {
        Due.sentence("7 shift", "but those for which one would be bad");
        for (int axis = 0; axis < 3; axis++) {
            for (int side : new int[] {1, -1}) {
                leavesOutAtTheEdge(axis, side);
            }
        }
        PairFinder x = Due.after(y -> {
            Due.pad(y, -16384, 16384);
            y.addRow(3, 0, 0, 0, 1, 1);
            y.update();
        });
        Due.same("all are left out", x.shift(0, 511, 256, -256, 0), 0);
        Due.same("none is touched", x.count(5), 0);
        Due.same("by nothing none is left out", x.shift(0, 2, 0, 0, 0), 0);
        Due.corners("where it was", x, 2, 6, -16384, -16384, -16384, 16384, 16384, 16384);
    }

    /** Body 0 comes to the farthest, body 1 would come to the next float beyond; body 2 is away from it. */
    private static void leavesOutAtTheEdge(int axis, int side) {
        float step = Due.FARTHEST - Math.nextDown(Due.FARTHEST);
        float[] away = Due.on(axis, 0, 0);
        Due.Calls three = x -> {
            for (float near : new float[] {Due.FARTHEST - 1, Due.FARTHEST - 1 + 2 * step, 7}) {
                float[] corner = Due.on(axis, side * near, 0);
                Due.line(x, side > 0 ? away : corner, side > 0 ? corner : away);
                x.add(1, 1);
            }
            x.update();
        };
        int what = (side > 0 ? 9 : 6) + axis;
        float[] by = Due.on(axis, side, 0);
        PairFinder x = Due.after(three);
        Due.same("two of three, axis " + axis, x.shift(0, 2, by[0], by[1], by[2]), 2);
        Due.same("that up to the farthest", x.corner(0, what), side * Due.FARTHEST);
        Due.same("that beyond stays", x.corner(1, what), side * (Due.FARTHEST - 1 + 2 * step));
        Due.same("that beyond stays with its other corner", x.corner(1, 15 - what + 2 * axis), 0);
        Due.same("that beyond is untouched", x.about(1, 3), 0);
        Due.same("that away from it", x.corner(2, what), side * 8);
        float[] within = Due.on(axis, side * 0.125f, 0);
        Due.same("left out, though it would stay in its wide box", x.shift(0, 0, within[0], within[1], within[2]), 0);
        Due.same("its tight box stays", x.corner(0, what), side * Due.FARTHEST);
        float[] lost = Due.on(axis, side * LOST, 0);
        x.shift(0, 0, lost[0], lost[1], lost[2]);
        Due.same("a sum that is rounded to the farthest is not bad", x.corner(0, 15 - what + 2 * axis), side * (1 + LOST));
        float[] more = Due.on(axis, side * Math.nextUp(LOST), 0);
        x.shift(0, 0, more[0], more[1], more[2]);
        Due.same("one that is rounded beyond is", x.corner(0, 15 - what + 2 * axis), side * (1 + LOST));
    }

    private static void shiftRefuses() {
        Due.sentence("7 shift", "IndexOutOfBoundsException: there is no such number, or from is above to");
        int[][] ranges = {{-1, 0}, {-1, 511}, {-1, -1}, {0, 512}, {511, 512}, {512, 512}, {0, -1}, {512, 511}, {1, 0}, {511, 510},
            {511, 0}, {Integer.MIN_VALUE, Integer.MAX_VALUE}, {0, Integer.MAX_VALUE}, {Integer.MIN_VALUE, 0},
            {Integer.MAX_VALUE, Integer.MIN_VALUE}};
        for (int[] range : ranges) {
            String what = "shift(" + range[0] + ", " + range[1] + ")";
            OF_EMPTY.refused(what, Due.PLACE, x -> x.shift(range[0], range[1], 1, 1, 1));
            OF_BUSY.refused(what, Due.PLACE, x -> x.shift(range[0], range[1], 1, 1, 1));
            OF_BUSY.refused(what + " (place before argument)", Due.PLACE, x -> x.shift(range[0], range[1], 0, 0, Float.NaN));
            OF_FULL.refused(what, Due.PLACE, x -> x.shift(range[0], range[1], 1, 1, 1));
        }
        Due.sentence("7 shift", "IllegalArgumentException: dx, dy or dz is not -256 .. 256");
        for (int axis = 0; axis < 3; axis++) {
            for (float d : Due.NO_MOVEMENTS) {
                float[] by = Due.on(axis, d, 0);
                OF_EMPTY.refused("shift of none by " + d, Due.ARGUMENT, x -> x.shift(0, 511, by[0], by[1], by[2]));
                OF_BUSY.refused("shift by " + d, Due.ARGUMENT, x -> x.shift(0, 511, by[0], by[1], by[2]));
            }
            for (float d : new float[] {256, -256}) {
                float[] by = Due.on(axis, d, 0);
                PairFinder x = Due.after(y -> y.add(1, 1));
                Due.same("shift by " + d, x.shift(0, 0, by[0], by[1], by[2]), 1);
                Due.same("it is there", x.corner(0, 6 + axis), d);
                Due.same("widened by it", x.corner(0, (d < 0 ? 0 : 3) + axis), d < 0 ? -256.25f - 512 : 256.25f + 512);
            }
        }
    }

    private static void filter() {
        Due.sentence("8 filter", "a body's group and mask become these");
        PairFinder x = Due.after(Due::full);
        for (int body : new int[] {0, 511}) {
            for (int group : new int[] {Integer.MIN_VALUE, Integer.MAX_VALUE, 0, -1}) {
                x.filter(body, group, ~group);
                Due.same("group", x.about(body, 0), group);
                Due.same("mask", x.about(body, 1), ~group);
            }
        }
        Due.same("the next one's group", x.about(1, 0), 1);
        Due.same("the pairs stay until the update", x.count(1), 511);
        Due.same("these two and body 3 are touched", x.count(5), 3);
        Due.same("then those of the two end", x.update(), 509);

        Due.sentence("8 filter", "IndexOutOfBoundsException");
        for (int body : Due.NO_BODIES) {
            OF_FULL.refused("filter(" + body + ")", Due.PLACE, y -> y.filter(body, 2, 2));
            OF_EMPTY.refused("filter(" + body + ")", Due.PLACE, y -> y.filter(body, 2, 2));
        }
        for (int body : new int[] {5, 8, 511}) {
            OF_BUSY.refused("filter(" + body + ")", Due.PLACE, y -> y.filter(body, 2, 2));
        }
    }

    private static void removeTellsThePairs() {
        Due.sentence("9 remove", "a body is not there any more, nor the pairs with it: how many these were");
        Due.Calls star = x -> {
            x.addRow(200, 0, 0, 0, 2, 1);
            x.add(1, 2);
            x.addRow(311, 0, 0, 0, 2, 1);
        };
        PairFinder before = Due.after(star);
        Due.same("before the first update it has none", before.remove(200), 0);
        PairFinder x = Due.after(star);
        Due.same("one with all others", x.update(), 511);
        Due.same("of the first one", x.remove(0), 1);
        Due.same("of the last one", x.remove(511), 1);
        Due.same("of that with all others", x.remove(200), 509);
        Due.same("no pair is left", x.count(1), 0);
        Due.same("of one without pairs", x.remove(1), 0);
        PairFinder last = Due.after(y -> y.add(1, 1));
        Due.same("the only body", last.remove(0), 0);
        Due.same("none is there", last.count(0), 0);
        Due.same("none is touched", last.count(5), 0);

        Due.sentence("9 remove", "BEGUN, ENDED and FOUND stay as they were");
        PairFinder y = Due.after(z -> {
            z.addRow(4, 0, 0, 0, 1, 1);
            z.filter(3, 0, 0);
            z.update();
            z.filter(3, 1, 1);
            z.filter(0, 0, 0);
            z.update();
            z.overlapping(-1);
        });
        for (int body = 0; body < 4; body++) {
            y.remove(body);
        }
        Due.same("BEGUN", y.count(2), 2);
        Due.same("its first pair", y.pair(1, 0), 512 + 3);
        Due.same("its last pair", y.pair(1, 1), 2 * 512 + 3);
        Due.same("ENDED", y.count(3), 2);
        Due.same("its first pair", y.pair(2, 0), 1);
        Due.same("its last pair", y.pair(2, 1), 2);
        Due.same("FOUND", y.count(6), 3);
        Due.same("its last body", y.found(2), 3);
    }

    private static void removeRefuses() {
        Due.sentence("9 remove", "IndexOutOfBoundsException");
        for (int body : Due.NO_BODIES) {
            OF_FULL.refused("remove(" + body + ")", Due.PLACE, x -> x.remove(body));
            OF_EMPTY.refused("remove(" + body + ")", Due.PLACE, x -> x.remove(body));
        }
        for (int body : new int[] {5, 8, 511}) {
            OF_BUSY.refused("remove(" + body + ")", Due.PLACE, x -> x.remove(body));
        }
        OF_EMPTY.refused("remove(0)", Due.PLACE, x -> x.remove(0));
        new Refusals(x -> { Due.full(x); x.remove(0); x.remove(511); }).refused("a second time", Due.PLACE, x -> x.remove(511));
    }

    public static void main(String[] args) {
        aNewObjectHasNothing();
        lowAndHigh();
        addTakesTheLowestNumber();
        addRefuses();
        addRowOfOneTo512();
        addRowFillsGaps();
        addRowRefusesPadsAndMovements();
        addRowRefusesBadNumbers();
        addRowRefusesTooMany();
        moveToThePad();
        moveRefuses();
        shiftFromTo();
        shiftCountsWideBoxesAlone();
        shiftLeavesOutWhatWouldBeBad();
        shiftRefuses();
        filter();
        removeTellsThePairs();
        removeRefuses();
        Due.end("the edges of promises 1 to 9");
    }
}
