/** What the edge tests have in common: the sentence of the document at hand, and what is told where it does not hold. */
final class Due {
    static final Class<? extends RuntimeException> PLACE = IndexOutOfBoundsException.class;
    static final Class<? extends RuntimeException> ARGUMENT = IllegalArgumentException.class;
    static final Class<? extends RuntimeException> STATE = IllegalStateException.class;

    static final float FARTHEST = 16384f;
    static final float LONGEST = 256f;
    /** The first numbers that are refused on each side of the farthest, and what is no number at all. */
    static final float[] BAD = {
        Math.nextUp(FARTHEST), -Math.nextUp(FARTHEST), Float.MAX_VALUE, -Float.MAX_VALUE,
        Float.POSITIVE_INFINITY, Float.NEGATIVE_INFINITY, Float.NaN};
    /** The same for movements. */
    static final float[] NO_MOVEMENTS = {
        Math.nextUp(LONGEST), -Math.nextUp(LONGEST), FARTHEST, -FARTHEST,
        Float.POSITIVE_INFINITY, Float.NEGATIVE_INFINITY, Float.NaN};

    /** A run of calls on an object that is new but for the calls before it. */
    interface Calls {
        void on(PairFinder x);
    }

    /** Numbers that no body has, whatever was added. */
    static final int[] NO_BODIES = {-1, 512, -512, 513, Integer.MIN_VALUE, Integer.MAX_VALUE};

    private static int wrong = 0;
    private static String sentence = "";

    private Due() {
    }

    static void sentence(String promise, String words) {
        sentence = promise + " (" + words + ")";
    }

    static void same(String what, double got, double want) {
        if (got != want) {
            tell(what + " answered " + got + ", due is " + want);
        }
    }

    static void holds(String what, boolean got) {
        if (!got) {
            tell(what + " does not hold");
        }
    }

    static void tell(String text) {
        wrong++;
        System.out.println(sentence + ": " + text);
    }

    /** The name of what a call throws must be the very one that is due, not a class below it. */
    static void fails(String what, Class<? extends RuntimeException> due, PairFinder x, Calls call) {
        Class<?> got = null;
        try {
            call.on(x);
        } catch (RuntimeException thrown) {
            got = thrown.getClass();
        }
        if (got != due) {
            tell(what + " threw " + got + ", due is " + due);
        }
    }

    static PairFinder after(Calls calls) {
        PairFinder x = new PairFinder();
        calls.on(x);
        return x;
    }

    /** Some bodies, pairs, begun and ended ones, a found list, touched and untouched bodies, a gap at 5. */
    static void busy(PairFinder x) {
        pad(x, 0, 8);
        x.addRow(7, 8.25f, 0, 0, 3, 1);
        x.update();
        x.filter(2, 0, 0);
        x.shift(4, 4, 0, 0.125f, 0);
        x.add(1, 1);
        x.update();
        pad(x, 20, -1);
        x.meeting(-1);
        x.filter(1, 1, 1);
        x.remove(5);
        pad(x, 1, 2);
    }

    /** All 512 bodies in a chain of 511 pairs; body 3 is touched, the last four are found. */
    static void full(PairFinder x) {
        pad(x, 0, 8);
        x.addRow(512, 8.25f, 0, 0, 1, 1);
        x.update();
        x.filter(3, 1, 1);
        x.low(4193, 0, 0);
        x.high(4300, 1, 1);
        x.overlapping(1);
        pad(x, 1, 2);
    }

    static void pad(PairFinder x, float low, float high) {
        x.low(low, low, low);
        x.high(high, high, high);
    }

    static void line(PairFinder x, float[] from, float[] to) {
        x.low(from[0], from[1], from[2]);
        x.high(to[0], to[1], to[2]);
    }

    /** Three numbers: that on the axis, the other one on both others. */
    static float[] on(int axis, float number, float others) {
        float[] all = {others, others, others};
        all[axis] = number;
        return all;
    }

    static void corners(String what, PairFinder x, int body, int first, float... due) {
        for (int k = 0; k < due.length; k++) {
            same(what + ", corner(" + body + ", " + (first + k) + ")", x.corner(body, first + k), due[k]);
        }
    }

    static void end(String all) {
        System.out.println(wrong == 0 ? all + " hold" : wrong + " answers are not as due");
        if (wrong != 0) {
            System.exit(1);
        }
    }
}
