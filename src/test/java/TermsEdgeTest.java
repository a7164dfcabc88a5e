/** The edges that the document's section "Terms" names, each sentence by itself. */
public final class TermsEdgeTest {
    private static final float TINY = Float.MIN_VALUE;

    private static void sumsAreMadeFromLeftToRight() {
        Due.sentence("NUMBERS", "each sum is made as it is written here, from left to right");
        float low = 0.1f;
        float back = -0.1f;
        float dueLow = (low - 0.25f) + back * 2f;
        Due.holds("the order can be told by this low", dueLow != low + (back * 2f - 0.25f) && dueLow != low + back * 2f - 0.25f);
        Due.corners("low - 0.25, then + d * 2", movedTo(low, 8, back), 0, 0, dueLow, dueLow, dueLow);
        float high = 0.8f;
        float on = 0.7f;
        float dueHigh = (high + 0.25f) + on * 2f;
        Due.holds("the order can be told by this high", dueHigh != high + (on * 2f + 0.25f) && dueHigh != high + on * 2f + 0.25f);
        Due.corners("high + 0.25, then + d * 2", movedTo(-8, high, on), 0, 3, dueHigh, dueHigh, dueHigh);
    }

    private static PairFinder movedTo(float low, float high, float d) {
        PairFinder x = new PairFinder();
        Due.pad(x, 100, 100);
        x.add(1, 1);
        Due.pad(x, low, high);
        x.move(0, d, d, d);
        return x;
    }

    private static void sumsAreFloats() {
        Due.sentence("NUMBERS", "they are floats");
        PairFinder y = Due.after(z -> {
            Due.pad(z, 0.1f, 0.7f);
            z.addRow(2, 0.3f, 0.3f, 0.3f, 1, 1);
        });
        Due.holds("float and double can be told apart by this", 0.1f + 0.3f != (double) 0.1f + 0.3f);
        Due.corners("low plus d", y, 1, 6, 0.1f + 0.3f, 0.1f + 0.3f, 0.1f + 0.3f);
        Due.corners("high plus d", y, 1, 9, 0.7f + 0.3f, 0.7f + 0.3f, 0.7f + 0.3f);
        Due.corners("low - 0.25", y, 0, 0, 0.1f - 0.25f, 0.1f - 0.25f, 0.1f - 0.25f);
        Due.corners("high + 0.25", y, 0, 3, 0.7f + 0.25f, 0.7f + 0.25f, 0.7f + 0.25f);
        PairFinder row = Due.after(z -> z.addRow(512, 0.1f, 0.1f, 0.1f, 1, 1));
        float sum = 0;
        for (int behindFirst = 1; behindFirst < 512; behindFirst++) {
            sum = sum + 0.1f;
        }
        Due.holds("sums and a product can be told apart by this", sum != 511 * 0.1f && sum != (float) (511 * (double) 0.1f));
        Due.corners("a row's last body is made by 511 sums", row, 511, 6, sum, sum, sum, sum, sum, sum);
    }

    private static void aBoxMayBeAPoint() {
        Due.sentence("BOX", "it is a box if low is not above high in x, y and z");
        for (int axis = 0; axis < 3; axis++) {
            float[] equal = Due.on(axis, 5, 0);
            float[] above = Due.on(axis, Math.nextUp(5f), 0);
            float[] high = Due.on(axis, 5, 1);
            Due.same("low is high on axis " + axis, Due.after(x -> Due.line(x, equal, high)).add(1, 1), 0);
            Due.fails("low is just above high on axis " + axis, Due.ARGUMENT, Due.after(x -> Due.line(x, above, high)), x -> x.add(1, 1));
            float[] tiny = Due.on(axis, TINY, 0);
            float[] zero = Due.on(axis, 0, 1);
            Due.fails("low is above 0 by the least float on axis " + axis, Due.ARGUMENT, Due.after(x -> Due.line(x, tiny, zero)), x -> x.add(1, 1));
        }
        Due.same("0 is not above -0", Due.after(x -> Due.pad(x, 0f, -0f)).add(1, 1), 0);
        Due.same("a point at the farthest corner", Due.after(x -> Due.pad(x, Due.FARTHEST, Due.FARTHEST)).add(1, 1), 0);
        Due.same("a point at the other farthest corner", Due.after(x -> Due.pad(x, -Due.FARTHEST, -Due.FARTHEST)).add(1, 1), 0);
    }

    private static void touchingIsEnough() {
        Due.sentence("BOX", "two boxes overlap ... (touching is enough)");
        for (int axis = 0; axis < 3; axis++) {
            for (boolean first : new boolean[] {true, false}) {
                Due.same("touching at the low side, axis " + axis, pairsWith(axis, 0, 7.5f, first), 1);
                Due.same("just apart at the low side, axis " + axis, pairsWith(axis, 0, Math.nextDown(7.5f), first), 0);
                Due.same("touching at the high side, axis " + axis, pairsWith(axis, 16.5f, 20, first), 1);
                Due.same("just apart at the high side, axis " + axis, pairsWith(axis, Math.nextUp(16.5f), 20, first), 0);
            }
        }
    }

    /** Of the cube 8 .. 16, whose wide box is 7.75 .. 16.25, and a box with these numbers on the axis. */
    private static int pairsWith(int axis, float low, float high, boolean cubeFirst) {
        PairFinder x = new PairFinder();
        for (boolean cube : new boolean[] {cubeFirst, !cubeFirst}) {
            Due.line(x, Due.on(axis, cube ? 8 : low, 8), Due.on(axis, cube ? 16 : high, 16));
            x.add(1, 1);
        }
        return x.update();
    }

    private static void liesInUpToTheEdge() {
        Due.sentence("BOX", "a box lies in another one, if its low is not below that one's low, and its high not above that one's high");
        for (int axis = 0; axis < 3; axis++) {
            Due.holds("low at the wide low, axis " + axis, !leaves(axis, 7.75f, 16));
            Due.holds("low just below the wide low, axis " + axis, leaves(axis, Math.nextDown(7.75f), 16));
            Due.holds("high at the wide high, axis " + axis, !leaves(axis, 8, 16.25f));
            Due.holds("high just above the wide high, axis " + axis, leaves(axis, 8, Math.nextUp(16.25f)));
            Due.holds("the wide box itself on axis " + axis, !leaves(axis, 7.75f, 16.25f));
            Due.holds("a point at the wide low, axis " + axis, !leaves(axis, 7.75f, 7.75f));
            Due.holds("a point at the wide high, axis " + axis, !leaves(axis, 16.25f, 16.25f));
        }
    }

    private static boolean leaves(int axis, float low, float high) {
        PairFinder x = new PairFinder();
        Due.pad(x, 8, 16);
        x.add(1, 1);
        Due.line(x, Due.on(axis, low, 8), Due.on(axis, high, 16));
        return x.move(0, 0, 0, 0);
    }

    private static void thePadIsAllZeroAtFirst() {
        Due.sentence("THE PAD", "has two corners (all 0 at first)");
        PairFinder neither = new PairFinder();
        neither.add(1, 1);
        Due.corners("neither corner was set", neither, 0, 6, 0, 0, 0, 0, 0, 0);
        PairFinder lowAlone = new PairFinder();
        lowAlone.low(-1, -2, -3);
        lowAlone.add(1, 1);
        Due.corners("low alone was set", lowAlone, 0, 6, -1, -2, -3, 0, 0, 0);
        PairFinder highAlone = new PairFinder();
        highAlone.high(1, 2, 3);
        highAlone.add(1, 1);
        Due.corners("high alone was set", highAlone, 0, 6, 0, 0, 0, 1, 2, 3);
    }

    private static void bodiesAreNumberedUpTo511() {
        Due.sentence("BODIES", "are numbered 0 .. 511");
        PairFinder x = Due.after(Due::full);
        Due.same("the first body's group", x.about(0, 0), 1);
        Due.same("the last body's group", x.about(511, 0), 1);
        for (int body : Due.NO_BODIES) {
            Due.fails("about(" + body + ", 0)", Due.PLACE, x, y -> y.about(body, 0));
        }
    }

    private static void letThroughNeedsBothSides() {
        Due.sentence("BODIES", "let through if (the group of each & the mask of the other) is not 0");
        for (int bit = 0; bit < 32; bit++) {
            int one = 1 << bit;
            int rest = ~one;
            Due.same("the same bit alone, " + bit, pairsLetThrough(one, one, one, one), 1);
            Due.same("the first group's bit is missing in the second mask, " + bit, pairsLetThrough(one, -1, -1, rest), 0);
            Due.same("the second group's bit is missing in the first mask, " + bit, pairsLetThrough(-1, rest, one, -1), 0);
            Due.same("each mask has the other's group, " + bit, pairsLetThrough(one, rest, rest, one), 1);
            Due.same("each mask has its own group alone, " + bit, pairsLetThrough(one, one, rest, rest), 0);
        }
        Due.same("a group of 0", pairsLetThrough(0, -1, -1, -1), 0);
        Due.same("a mask of 0", pairsLetThrough(-1, 0, -1, -1), 0);
        Due.same("the other group of 0", pairsLetThrough(-1, -1, 0, -1), 0);
        Due.same("the other mask of 0", pairsLetThrough(-1, -1, -1, 0), 0);
        Due.same("all bits", pairsLetThrough(-1, -1, -1, -1), 1);
    }

    private static int pairsLetThrough(int group, int mask, int otherGroup, int otherMask) {
        PairFinder x = new PairFinder();
        x.add(group, mask);
        x.add(otherGroup, otherMask);
        return x.update();
    }

    private static void widenedToTheSideOfTheMovement() {
        Due.sentence("TO WIDEN", "where d is below 0, low becomes low + d * 2, else high becomes high + d * 2");
        for (int axis = 0; axis < 3; axis++) {
            for (float d : new float[] {-256, -1, -0.125f, -0f, 0, 0.125f, 1, 256}) {
                float low = d < 0 ? 99.75f + 2 * d : 99.75f;
                float high = d < 0 ? 108.25f : 108.25f + 2 * d;
                widens(axis, 100, 108, d, low, high);
            }
            widens(axis, 0.25f, 8, -TINY, -2 * TINY, 8.25f);
            widens(axis, 0.25f, 8, -0f, 0, 8.25f);
            widens(axis, -8, -0.25f, TINY, -8.25f, 2 * TINY);
            widens(axis, -8, -0.25f, 0, -8.25f, 0);
        }
    }

    private static void widens(int axis, float low, float high, float d, float dueLow, float dueHigh) {
        PairFinder x = new PairFinder();
        Due.pad(x, -16384, -16384);
        x.add(1, 1);
        Due.pad(x, low, high);
        float[] movement = Due.on(axis, d, 0);
        Due.holds("the body leaves its wide box", x.move(0, movement[0], movement[1], movement[2]));
        for (int other = 0; other < 3; other++) {
            String what = "d " + d + " on axis " + axis + ", the wide box on axis " + other;
            Due.corners(what, x, 0, other, other == axis ? dueLow : low - 0.25f);
            Due.corners(what, x, 0, 3 + other, other == axis ? dueHigh : high + 0.25f);
        }
    }

    private static void touched() {
        Due.sentence("TOUCHED", "when it is added");
        PairFinder x = new PairFinder();
        x.add(0, 0);
        Due.same("added", x.about(0, 3), 1);
        x.addRow(3, 0, 0, 0, 0, 0);
        Due.same("the first of a row", x.about(1, 3), 1);
        Due.same("the last of a row", x.about(3, 3), 1);

        Due.sentence("TOUCHED", "an update makes all untouched");
        x.update();
        for (int body = 0; body < 4; body++) {
            Due.same("body " + body, x.about(body, 3), 0);
        }

        Due.sentence("TOUCHED", "when its wide box becomes another one");
        Due.pad(x, -0.25f, 0.25f);
        x.move(0, 0, 0, 0);
        Due.same("moved within its wide box", x.about(0, 3), 0);
        x.shift(1, 1, 0.25f, -0.25f, 0);
        Due.same("shifted within its wide box", x.about(1, 3), 0);
        x.high(0.25f, 0.25f, Math.nextUp(0.25f));
        x.move(0, 0, 0, 0);
        Due.same("moved just out of it", x.about(0, 3), 1);
        x.shift(1, 1, 0, 0, Math.nextUp(0.25f));
        Due.same("shifted just out of it", x.about(1, 3), 1);
        Due.same("no other", x.count(5), 2);

        Due.sentence("TOUCHED", "when its group and mask are set");
        x.filter(2, 0, 0);
        Due.same("set to what they were", x.about(2, 3), 1);
        x.overlapping(-1);
        x.meeting(-1);
        x.remove(0);
        Due.same("nothing else touches", x.about(3, 3), 0);
    }

    private static void pairsAreToldByTheLowerBodyFirst() {
        Due.sentence("PAIRS", "are two different bodies a < b, told as a * 512 + b");
        PairFinder x = Due.after(Due::full);
        Due.same("the lowest pair of a full chain", x.pair(0, 0), 1);
        Due.same("the highest one", x.pair(0, 510), 510 * 512 + 511);
        PairFinder ends = Due.after(y -> {
            Due.pad(y, 0, 8);
            y.add(1, 2);
            y.addRow(510, 0, 0, 0, 0, 0);
            y.add(2, 1);
        });
        ends.update();
        Due.same("the pair of the first and the last body", ends.pair(0, 0), 511);
        Due.same("the only one", ends.count(1), 1);

        Due.sentence("PAIRS", "they are what they were at the latest update, but for those of a body that was removed since");
        PairFinder y = Due.after(z -> z.addRow(4, 0, 0, 0, 1, 1));
        Due.same("none before the first update", y.count(1), 0);
        y.update();
        y.filter(1, 0, 0);
        y.shift(2, 2, 100, 0, 0);
        y.add(1, 1);
        Due.same("nothing changes them before the next update", y.count(1), 6);
        y.remove(3);
        Due.same("but a removal", y.count(1), 3);
        Due.same("those without the removed body stay", y.pair(0, 2), 512 + 2);
    }

    private static void foundIsEmptyAtFirst() {
        Due.sentence("FOUND", "a list of bodies, in the order of their numbers, with a float each; empty at first");
        PairFinder x = Due.after(y -> y.addRow(2, 0, 0, 0, 1, 1));
        x.update();
        Due.same("before the first search", x.count(6), 0);
        PairFinder order = Due.after(y -> {
            Due.pad(y, 100, 101);
            y.addRow(4, -20, -20, -20, 1, 1);
            y.remove(1);
            Due.pad(y, 10, 11);
            y.add(1, 1);
            Due.pad(y, 0, 200);
        });
        Due.same("all are met by the line", order.meeting(1), 4);
        for (int k = 0; k < 4; k++) {
            Due.same("found(" + k + "), though the line meets others first", order.found(k), k);
        }
    }

    /** The last of an object's 512 calls must answer as due; what comes behind it is free. */
    private static void theLastCallIsAnswered() {
        Due.sentence("What it is", "an object is used for at most 512 calls after it has been made");
        PairFinder adds = new PairFinder();
        for (int call = 1; call < 512; call++) {
            adds.add(1, 1);
        }
        Due.same("the 512th call, add", adds.add(1, 1), 511);
        PairFinder updates = new PairFinder();
        for (int call = 1; call < 512; call++) {
            updates.update();
        }
        Due.same("the 512th call, count(4)", updates.count(4), 511);
        PairFinder refusals = new PairFinder();
        for (int call = 1; call < 512; call++) {
            Due.fails("call " + call + ", found(0)", Due.PLACE, refusals, x -> x.found(0));
        }
        Due.fails("the 512th call, where(0)", Due.PLACE, refusals, x -> x.where(0));
        PairFinder dear = Due.after(Due::full);
        for (int call = 11; call < 512; call += 2) {
            dear.shift(0, 511, 0, 0, call % 4 == 3 ? 50 : -50);
            Due.same("update as call " + (call + 1), dear.update(), 511);
        }
    }

    public static void main(String[] args) {
        sumsAreMadeFromLeftToRight();
        sumsAreFloats();
        aBoxMayBeAPoint();
        touchingIsEnough();
        liesInUpToTheEdge();
        thePadIsAllZeroAtFirst();
        bodiesAreNumberedUpTo511();
        letThroughNeedsBothSides();
        widenedToTheSideOfTheMovement();
        touched();
        pairsAreToldByTheLowerBodyFirst();
        foundIsEmptyAtFirst();
        theLastCallIsAnswered();
        Due.end("the edges of the terms");
    }
}
