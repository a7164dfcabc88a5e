/** The edges that promises 13 to 17 name, each sentence by itself: the searches, and what they found. */
public final class FoundEdgeTest {
    private static final float TINY = Float.MIN_VALUE;

    /** One body, the cube 8 .. 16: its wide box is 7.75 .. 16.25. */
    private static void cube(PairFinder x) {
        Due.pad(x, 8, 16);
        x.add(1, 1);
    }

    private static void overlappingUpToTheEdge() {
        Due.sentence("13 overlapping", "the bodies ... whose wide box overlaps the pad, with 0 each: how many");
        for (int axis = 0; axis < 3; axis++) {
            overlaps("touching the wide low", axis, 0, 7.75f, 1);
            overlaps("just before it", axis, 0, Math.nextDown(7.75f), 0);
            overlaps("touching the wide high", axis, 16.25f, 20, 1);
            overlaps("just behind it", axis, Math.nextUp(16.25f), 20, 0);
            overlaps("a point at the wide low", axis, 7.75f, 7.75f, 1);
            overlaps("a point at the wide high", axis, 16.25f, 16.25f, 1);
            overlaps("all there is", axis, -16384, 16384, 1);
        }
        PairFinder x = Due.after(Due::full);
        Due.pad(x, -16384, 16384);
        Due.same("all 512", x.overlapping(1), 512);
        Due.same("the last of them", x.found(511), 511);
        Due.same("with 0", x.where(511), 0);
        Due.pad(x, 16384, 16384);
        Due.same("none", x.overlapping(1), 0);
        Due.same("FOUND is empty", x.count(6), 0);
        PairFinder zero = Due.after(FoundEdgeTest::cube);
        Due.line(zero, new float[] {0, 12, 12}, new float[] {16, 12, 12});
        zero.meeting(1);
        Due.holds("the line's float is not 0", zero.where(0) != 0);
        zero.overlapping(1);
        Due.same("0 behind a line's float", zero.where(0), 0);
    }

    private static void overlaps(String what, int axis, float low, float high, int due) {
        PairFinder x = Due.after(FoundEdgeTest::cube);
        Due.line(x, Due.on(axis, low, 10), Due.on(axis, high, 11));
        Due.same(what + ", axis " + axis, x.overlapping(1), due);
    }

    private static void groupsOfSearches() {
        Due.sentence("13 overlapping", "the bodies whose group & mask is not 0");
        searchesByGroup(PairFinder::overlapping);
        Due.sentence("14 meeting", "the bodies whose group & mask is not 0");
        searchesByGroup(PairFinder::meeting);
    }

    private interface Search {
        int of(PairFinder x, int mask);
    }

    private static void searchesByGroup(Search search) {
        PairFinder x = new PairFinder();
        for (int bit = 0; bit < 32; bit++) {
            x.add(1 << bit, 0);
        }
        x.add(0, -1);
        for (int bit = 0; bit < 32; bit++) {
            Due.same("bit " + bit, search.of(x, 1 << bit), 1);
            Due.same("the body with it", x.found(0), bit);
        }
        Due.same("all bits, but not the group of 0", search.of(x, -1), 32);
        Due.same("no bit", search.of(x, 0), 0);
        Due.same("FOUND is empty", x.count(6), 0);
        x.remove(31);
        Due.same("a body that is not there any more", search.of(x, Integer.MIN_VALUE), 0);
    }

    private static void overlappingRefuses() {
        Due.sentence("13 overlapping", "IllegalArgumentException: the pad is no box");
        for (int axis = 0; axis < 3; axis++) {
            float[] low = Due.on(axis, Math.nextUp(9f), 0);
            float[] high = Due.on(axis, 9, 10);
            new Refusals(x -> Due.line(x, low, high)).refused("of none, axis " + axis, Due.ARGUMENT, x -> x.overlapping(-1));
            Refusals busy = new Refusals(x -> { Due.busy(x); Due.line(x, low, high); });
            busy.refused("of some, axis " + axis, Due.ARGUMENT, x -> x.overlapping(-1));
            busy.refused("with no mask, axis " + axis, Due.ARGUMENT, x -> x.overlapping(0));
            Refusals full = new Refusals(x -> { Due.full(x); Due.line(x, low, high); });
            full.refused("of all, axis " + axis, Due.ARGUMENT, x -> x.overlapping(-1));
        }
    }

    private static void lineAgainstTheCube(String what, int axis, float from, float to, float due) {
        float[] start = Due.on(axis, from, 12);
        float[] end = Due.on(axis, to, 12);
        lineMeets(what + ", axis " + axis, start, end, due);
    }

    /** A due float below 0 stands for a line that does not meet the cube. */
    private static void lineMeets(String what, float[] start, float[] end, float due) {
        PairFinder x = Due.after(FoundEdgeTest::cube);
        Due.line(x, start, end);
        Due.same(what, x.meeting(1), due < 0 ? 0 : 1);
        if (due >= 0 && x.count(6) == 1) {
            Due.same(what + ", where", x.where(0), due);
        }
    }

    private static void meetingAlongOneAxis() {
        for (int axis = 0; axis < 3; axis++) {
            Due.sentence("14 meeting", "ENTER is 0, LEAVE is 1; it is met, if ENTER is not above LEAVE in the end");
            lineAgainstTheCube("ends at the wide low", axis, 0, 7.75f, 1);
            lineAgainstTheCube("ends just before it", axis, 0, Math.nextDown(7.75f), -1);
            lineAgainstTheCube("begins at the wide high", axis, 16.25f, 32, 0);
            lineAgainstTheCube("begins just behind it", axis, Math.nextUp(16.25f), 32, -1);
            lineAgainstTheCube("begins at the wide low", axis, 7.75f, 32, 0);
            lineAgainstTheCube("begins inside", axis, 12, 32, 0);
            lineAgainstTheCube("ends inside", axis, 0, 15.5f, 0.5f);
            lineAgainstTheCube("is inside", axis, 9, 10, 0);
            lineAgainstTheCube("goes through", axis, 0, 31, 0.25f);
            lineAgainstTheCube("is 1 long", axis, 7, 8, 0.75f);
            lineAgainstTheCube("all there is", axis, -16384, 16384, (7.75f + 16384f) / 32768f);
            Due.sentence("14 meeting", "if a is above b, they are exchanged (the pad need be no box)");
            lineAgainstTheCube("ends at the wide high", axis, 32, 16.25f, 1);
            lineAgainstTheCube("ends just before it", axis, 32, Math.nextUp(16.25f), -1);
            lineAgainstTheCube("begins at the wide low, away from it", axis, 7.75f, 0, 0);
            lineAgainstTheCube("begins just before it", axis, Math.nextDown(7.75f), 0, -1);
            lineAgainstTheCube("begins at the wide high", axis, 16.25f, 0, 0);
            lineAgainstTheCube("begins inside", axis, 12, 0, 0);
            lineAgainstTheCube("ends inside", axis, 24.25f, 8.25f, 0.5f);
            lineAgainstTheCube("goes through", axis, 24.25f, -7.75f, 0.25f);
            lineAgainstTheCube("all there is", axis, 16384, -16384, (16.25f - 16384f) / -32768f);
        }
    }

    private static void aNegativeZeroIsNotAboveZero() {
        Due.sentence("14 meeting", "ENTER becomes a, if that is above it");
        PairFinder x = Due.after(FoundEdgeTest::cube);
        Due.line(x, new float[] {16.25f, 12, 12}, new float[] {0, 12, 12});
        x.meeting(1);
        Due.holds("ENTER stays 0 where a is -0", 1 / x.where(0) > 0);
    }

    private static void meetingWithoutMovement() {
        Due.sentence("14 meeting", "if d is 0: not met, if the pad's low is below the wide low or above the wide high");
        for (int axis = 0; axis < 3; axis++) {
            for (int along = 0; along < 3; along++) {
                for (float[] at : new float[][] {{7.75f, 1}, {Math.nextDown(7.75f), -1}, {16.25f, 1}, {Math.nextUp(16.25f), -1}, {12, 1}}) {
                    float[] start = Due.on(axis, at[0], 12);
                    float[] end = Due.on(axis, at[0], 12);
                    if (along != axis) {
                        start[along] = 0;
                        end[along] = 31;
                    }
                    float enter = along == axis ? 0 : 0.25f;
                    lineMeets("at " + at[0] + " on axis " + axis + ", along " + along, start, end, at[1] < 0 ? -1 : enter);
                }
            }
        }
        float[] zero = {0, 0, 0};
        float[] minusZero = {-0f, -0f, -0f};
        PairFinder x = Due.after(y -> { y.add(1, 1); Due.line(y, zero, minusZero); });
        Due.same("from 0 to -0", x.meeting(1), 1);
        Due.same("where", x.where(0), 0);
    }

    private static void theLeastLine() {
        Due.sentence("14 meeting", "else a = (wide low - pad's low) / d, b = (wide high - pad's low) / d");
        for (int axis = 0; axis < 3; axis++) {
            for (float d : new float[] {TINY, -TINY}) {
                float[] start = {0, 0, 0};
                float[] end = Due.on(axis, d, 0);
                PairFinder inside = Due.after(x -> { Due.pad(x, -1, 1); x.add(1, 1); Due.line(x, start, end); });
                Due.same("the least line inside, axis " + axis, inside.meeting(1), 1);
                Due.same("where", inside.where(0), 0);
                float[] low = Due.on(axis, 0.5f, -1);
                float[] back = Due.on(axis, -0.5f, 1);
                float[] high = {1, 1, 1};
                float[] bottom = {-1, -1, -1};
                PairFinder ahead = Due.after(x -> { Due.line(x, low, high); x.add(1, 1); Due.line(x, start, end); });
                Due.same("the least line before it, axis " + axis, ahead.meeting(1), 0);
                PairFinder behind = Due.after(x -> { Due.line(x, bottom, back); x.add(1, 1); Due.line(x, start, end); });
                Due.same("the least line behind it, axis " + axis, behind.meeting(1), 0);
                float[] atLow = Due.on(axis, 0.25f, -1);
                PairFinder touching = Due.after(x -> { Due.line(x, atLow, high); x.add(1, 1); Due.line(x, start, end); });
                Due.same("the least line from the wide low on, axis " + axis, touching.meeting(1), 1);
                float[] atHigh = Due.on(axis, -0.25f, 1);
                PairFinder leaving = Due.after(x -> { Due.line(x, bottom, atHigh); x.add(1, 1); Due.line(x, start, end); });
                Due.same("the least line from the wide high on, axis " + axis, leaving.meeting(1), 1);
            }
        }
    }

    private static void quotientsAreFloats() {
        Due.sentence("NUMBERS", "are floats; each difference and quotient is made as it is written here");
        float on = (7.75f - 0.2f) / (17.6f - 0.2f);
        Due.holds("float and double can be told apart by this", on != (float) ((7.75 - 0.2f) / ((double) 17.6f - 0.2f)));
        float back = (16.25f - 17.2f) / (0.3f - 17.2f);
        Due.holds("and by this", back != (float) ((16.25 - 17.2f) / ((double) 0.3f - 17.2f)));
        Due.holds("and a quotient from a product", back != (16.25f - 17.2f) * (1 / (0.3f - 17.2f)));
        for (int axis = 0; axis < 3; axis++) {
            lineAgainstTheCube("on", axis, 0.2f, 17.6f, on);
            lineAgainstTheCube("back", axis, 17.2f, 0.3f, back);
        }
    }

    private static void meetingAcross() {
        Due.sentence("14 meeting", "ENTER becomes a, if that is above it; LEAVE b, if that is below it");
        for (int axis = 0; axis < 3; axis++) {
            int other = (axis + 1) % 3;
            across("touches an edge", axis, other, 32.25f, 0.5f);
            across("misses it by a float", axis, other, Math.nextUp(32.25f), -1);
            across("cuts it", axis, other, Math.nextDown(32.25f), 0.5f);
            float[] start = Due.on(axis, 0, 12);
            float[] end = Due.on(axis, 31, 12);
            start[other] = 5.75f;
            end[other] = 9.75f;
            lineMeets("the later of two entries, axis " + axis, start, end, 0.5f);
            start[other] = 32;
            end[other] = 17;
            lineMeets("one axis alone does not meet, axis " + axis, start, end, -1);
            start[other] = 6.75f;
            end[other] = 10.75f;
            lineMeets("two entries at once, axis " + axis, start, end, 0.25f);
        }
        lineMeets("a corner of the box", new float[] {-0.5f, 8, 8}, new float[] {16, 24.5f, 24.5f}, 0.5f);
        lineMeets("beside that corner", new float[] {-0.5f, 8, Math.nextUp(8f)}, new float[] {16, 24.5f, 24.5f}, -1);
        lineMeets("through the middle", new float[] {0, 0, 0}, new float[] {31, 31, 31}, 0.25f);
    }

    /** It enters at 7.75 on one axis at 0.5, and leaves at 16.25 on the other one at 0.5, if it ends at 32.25 there. */
    private static void across(String what, int axis, int other, float ends, float due) {
        float[] start = Due.on(axis, -0.25f, 12);
        float[] end = Due.on(axis, 15.75f, 12);
        start[other] = 0.25f;
        end[other] = ends;
        lineMeets(what + ", axes " + axis + " and " + other, start, end, due);
    }

    private static void meetingNoneAndAll() {
        Due.sentence("14 meeting", "FOUND becomes the bodies ...: how many");
        PairFinder x = Due.after(Due::full);
        Due.line(x, new float[] {0, 4, 4}, new float[] {8192, 4, 4});
        Due.same("all 512", x.meeting(1), 512);
        Due.same("the last of them", x.found(511), 511);
        Due.same("where", x.where(511), (511 * 8.25f - 0.25f) / 8192);
        Due.fails("behind it", Due.PLACE, x, y -> y.found(512));
        Due.line(x, new float[] {0, 9, 4}, new float[] {8192, 9, 4});
        Due.same("none", x.meeting(1), 0);
        Due.same("FOUND is empty", x.count(6), 0);
        Due.same("of no bodies", new PairFinder().meeting(-1), 0);
        PairFinder farthest = Due.after(y -> { Due.pad(y, 16384, 16384); y.add(1, 1); Due.pad(y, 16384, 16384); });
        Due.same("a point at the farthest corner", farthest.meeting(1), 1);
    }

    private static void foundAndWhere() {
        Due.sentence("15 found", "body k of FOUND; IndexOutOfBoundsException");
        PairFinder x = Due.after(Due::full);
        for (int k = 0; k < 4; k++) {
            Due.same("found(" + k + ")", x.found(k), 508 + k);
        }
        Due.sentence("16 where", "the float of body k of FOUND; IndexOutOfBoundsException");
        Due.line(x, new float[] {4300, 4, 4}, new float[] {4200, 4, 4});
        Due.same("bodies on the line", x.meeting(1), 3);
        for (int k = 0; k < 3; k++) {
            Due.same("where(" + k + ")", x.where(k), ((509 + k) * 8.25f + 8.25f - 4300) / -100);
        }
        Refusals none = new Refusals(y -> { });
        Refusals full = new Refusals(Due::full);
        for (int k : new int[] {-1, 4, 5, 511, 512, Integer.MIN_VALUE, Integer.MAX_VALUE}) {
            Due.sentence("15 found", "IndexOutOfBoundsException");
            full.refused("found(" + k + ") of four", Due.PLACE, y -> y.found(k));
            Due.sentence("16 where", "IndexOutOfBoundsException");
            full.refused("where(" + k + ") of four", Due.PLACE, y -> y.where(k));
        }
        for (int k : new int[] {0, -1, 1, Integer.MIN_VALUE, Integer.MAX_VALUE}) {
            Due.sentence("15 found", "IndexOutOfBoundsException");
            none.refused("found(" + k + ") of none", Due.PLACE, y -> y.found(k));
            Due.sentence("16 where", "IndexOutOfBoundsException");
            none.refused("where(" + k + ") of none", Due.PLACE, y -> y.where(k));
        }
        PairFinder all = Due.after(y -> { y.addRow(512, 0, 0, 0, 1, 1); y.overlapping(1); });
        Due.same("the last of 512", all.found(511), 511);
        Due.same("the last of 512, where", all.where(511), 0);
        Due.fails("found(512) of 512", Due.PLACE, all, y -> y.found(512));
        Due.fails("where(512) of 512", Due.PLACE, all, y -> y.where(512));
        all.remove(511);
        Due.same("a removed body stays", all.found(511), 511);
        all.overlapping(2);
        Due.fails("found(0) of what became empty", Due.PLACE, all, y -> y.found(0));
        Due.fails("where(0) of what became empty", Due.PLACE, all, y -> y.where(0));
    }

    private static void nearest() {
        Due.sentence("17 nearest", "NONE if it is empty");
        PairFinder x = new PairFinder();
        Due.same("at first", x.nearest(), -1);
        x.add(1, 1);
        Due.same("before a search", x.nearest(), PairFinder.NONE);
        x.overlapping(1);
        Due.same("one", x.nearest(), 0);
        x.remove(0);
        Due.same("one that is not there any more", x.nearest(), 0);
        x.meeting(1);
        Due.same("where FOUND became empty", x.nearest(), PairFinder.NONE);

        Due.sentence("17 nearest", "the body of FOUND with the least float, the lowest of several");
        PairFinder full = Due.after(Due::full);
        Due.line(full, new float[] {0, 4, 4}, new float[] {8192, 4, 4});
        full.meeting(1);
        Due.same("the first of 512", full.nearest(), 0);
        Due.line(full, new float[] {8192, 4, 4}, new float[] {0, 4, 4});
        full.meeting(1);
        Due.same("the last of 512", full.nearest(), 511);
        Due.line(full, new float[] {8.25f, 4, 4}, new float[] {8192, 4, 4});
        Due.same("those behind 8.25", full.meeting(1), 512);
        Due.same("two with 0", full.where(0) + full.where(1), 0);
        Due.same("the lowest of two", full.nearest(), 0);
        full.filter(0, 2, 2);
        full.meeting(1);
        Due.same("the lowest that is found", full.nearest(), 1);
        full.overlapping(1);
        Due.same("where all have 0", full.nearest(), 1);
        PairFinder later = Due.after(y -> {
            for (float low : new float[] {50, 20, 20, Math.nextDown(20f), 70, Math.nextDown(20f)}) {
                y.low(low, 0, 0);
                y.high(80, 1, 1);
                y.add(1, 1);
            }
            Due.line(y, new float[] {0, 0, 0}, new float[] {64, 0, 0});
        });
        later.meeting(1);
        Due.same("the least by one float, the lowest of two", later.nearest(), 3);
        later.remove(3);
        later.remove(5);
        later.meeting(1);
        Due.same("the second of FOUND", later.nearest(), 1);
    }

    public static void main(String[] args) {
        overlappingUpToTheEdge();
        groupsOfSearches();
        overlappingRefuses();
        meetingAlongOneAxis();
        aNegativeZeroIsNotAboveZero();
        meetingWithoutMovement();
        theLeastLine();
        quotientsAreFloats();
        meetingAcross();
        meetingNoneAndAll();
        foundAndWhere();
        nearest();
        Due.end("the edges of promises 13 to 17");
    }
}
