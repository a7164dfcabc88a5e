import java.util.ArrayDeque;
import java.util.Deque;
import java.util.Random;
import java.util.concurrent.Callable;

/**
 * Long runs of calls, drawn by fixed seeds, on PairFinder and on PlainFinder: every answer and every
 * exception must be the same, and from time to time, and after calls that throw, the whole state is compared.
 */
public final class ModelTest {
    private static final int RUNS = 108;
    private static final int CALLS = 512;
    private static final int LAST_TOLD = 8;
    private static final float[] SPECIAL = {
        Float.NaN, Float.POSITIVE_INFINITY, Float.NEGATIVE_INFINITY, 16384f, -16384f, Math.nextUp(16384f), -Math.nextUp(16384f),
        256f, -256f, Math.nextUp(256f), -Math.nextUp(256f), -0f, 0f, Float.MIN_VALUE, -Float.MIN_VALUE, 16383.75f, 0.25f};
    private static final int[] SPECIAL_INTS = {
        Integer.MIN_VALUE, Integer.MAX_VALUE, -1, 0, 1, 511, 512, 513, 12, 7, 3, 16383, 16384};

    private final Random random;
    private final PairFinder real = new PairFinder();
    private final PlainFinder plain = new PlainFinder();
    private final Deque<String> told = new ArrayDeque<>();
    /** The size of the space that the bodies of this run are in: the smaller, the more pairs. */
    private final float space;
    /** How many calls of a hundred have special, mostly wrong, numbers. */
    private final int specials;
    /** The longest row that is added at once, but for special ones. */
    private final int longestRow;

    private ModelTest(int seed) {
        random = new Random(seed);
        space = new float[] {4, 20, 60, 300, 4000, 16384}[seed % 6];
        specials = new int[] {0, 3, 15}[seed / 6 % 3];
        longestRow = new int[] {4, 40, 200}[seed / 18 % 3];
    }

    private static Object answer(Callable<Object> call) {
        try {
            Object answer = call.call();
            // The document tells zeros apart nowhere.
            return answer instanceof Float && (Float) answer == 0f ? (Object) 0f : answer;
        } catch (Exception thrown) {
            return "throws." + thrown.getClass().getSimpleName();
        }
    }

    private boolean differs(String call, Callable<Object> onReal, Callable<Object> onPlain) {
        Object got = answer(onReal);
        Object want = answer(onPlain);
        told.addLast(call + " -> " + want);
        if (told.size() > LAST_TOLD) {
            told.removeFirst();
        }
        if (got.equals(want)) {
            return false;
        }
        System.out.println("the last calls and what is due: " + told + "; the last one answered " + got);
        return true;
    }

    private boolean special() {
        return random.nextInt(100) < specials;
    }

    private float number(float within) {
        if (special()) {
            return SPECIAL[random.nextInt(SPECIAL.length)];
        }
        float drawn = (random.nextFloat() * 2 - 1) * within;
        return random.nextBoolean() ? drawn : Math.round(drawn * 4) / 4f;
    }

    private int whole(int bound) {
        return special() ? SPECIAL_INTS[random.nextInt(SPECIAL_INTS.length)] : random.nextInt(bound);
    }

    private int body() {
        return whole(Math.max(1, real.count(0) + 1));
    }

    private int mask() {
        switch (random.nextInt(6)) {
            case 0: return random.nextInt(8);
            case 1: return special() ? random.nextInt() : -1;
            default: return 1;
        }
    }

    private boolean padDiffers() {
        float[] low = {number(space), number(space), number(space)};
        float[] high = new float[3];
        boolean aBox = random.nextInt(10) > 0;
        boolean large = random.nextInt(8) == 0;
        for (int axis = 0; axis < 3; axis++) {
            float drawn = number(large ? space : 6);
            float size = aBox && drawn < 0 ? -drawn : drawn;
            high[axis] = random.nextInt(12) == 0 ? low[axis] : low[axis] + size;
        }
        return differs("low(" + low[0] + ", " + low[1] + ", " + low[2] + ")",
                () -> { real.low(low[0], low[1], low[2]); return 0; }, () -> { plain.low(low[0], low[1], low[2]); return 0; })
            || differs("high(" + high[0] + ", " + high[1] + ", " + high[2] + ")",
                () -> { real.high(high[0], high[1], high[2]); return 0; }, () -> { plain.high(high[0], high[1], high[2]); return 0; });
    }

    private boolean addDiffers() {
        int group = mask();
        int mask = mask();
        if (random.nextInt(3) > 0) {
            return differs("add(" + group + ", " + mask + ")", () -> real.add(group, mask), () -> plain.add(group, mask));
        }
        int n = whole(longestRow) + (special() ? 0 : 1);
        float within = random.nextInt(4) == 0 ? 256 : space / longestRow;
        float[] d = {number(within), number(within), number(within)};
        return differs("addRow(" + n + ", " + d[0] + ", " + d[1] + ", " + d[2] + ", " + group + ", " + mask + ")",
                () -> real.addRow(n, d[0], d[1], d[2], group, mask), () -> plain.addRow(n, d[0], d[1], d[2], group, mask));
    }

    private boolean moveDiffers() {
        float within = random.nextInt(4) == 0 ? 256 : random.nextInt(2) == 0 ? 0.3f : 4;
        float[] d = {number(within), number(within), number(within)};
        String by = d[0] + ", " + d[1] + ", " + d[2] + ")";
        if (random.nextBoolean()) {
            int body = body();
            return differs("move(" + body + ", " + by, () -> real.move(body, d[0], d[1], d[2]), () -> plain.move(body, d[0], d[1], d[2]));
        }
        int from = body();
        int to = special() ? body() : from + random.nextInt(random.nextInt(4) == 0 ? 512 : 8);
        int end = special() ? to : Math.min(to, 511);
        return differs("shift(" + from + ", " + end + ", " + by,
                () -> real.shift(from, end, d[0], d[1], d[2]), () -> plain.shift(from, end, d[0], d[1], d[2]));
    }

    private boolean bodyDiffers() {
        int body = body();
        int group = mask();
        int mask = mask();
        if (random.nextInt(3) == 0) {
            return differs("remove(" + body + ")", () -> real.remove(body), () -> plain.remove(body));
        }
        return differs("filter(" + body + ", " + group + ", " + mask + ")",
                () -> { real.filter(body, group, mask); return 0; }, () -> { plain.filter(body, group, mask); return 0; });
    }

    private boolean searchDiffers() {
        int mask = mask();
        return random.nextBoolean()
            ? differs("overlapping(" + mask + ")", () -> real.overlapping(mask), () -> plain.overlapping(mask))
            : differs("meeting(" + mask + ")", () -> real.meeting(mask), () -> plain.meeting(mask));
    }

    private boolean questionDiffers() {
        int body = body();
        int other = body();
        int what = whole(special() ? 14 : 4);
        int corner = whole(12);
        int k = whole(1 + random.nextInt(1 + random.nextInt(1 + real.count(1))));
        int which = whole(3);
        switch (random.nextInt(8)) {
            case 0: return differs("pair(" + which + ", " + k + ")", () -> real.pair(which, k), () -> plain.pair(which, k));
            case 1: return differs("paired(" + body + ", " + other + ")", () -> real.paired(body, other), () -> plain.paired(body, other));
            case 2: return differs("found(" + k + ")", () -> real.found(k), () -> plain.found(k));
            case 3: return differs("where(" + k + ")", () -> real.where(k), () -> plain.where(k));
            case 4: return differs("nearest()", real::nearest, plain::nearest);
            case 5: return differs("corner(" + body + ", " + corner + ")", () -> real.corner(body, corner), () -> plain.corner(body, corner));
            case 6: return differs("about(" + body + ", " + what + ")", () -> real.about(body, what), () -> plain.about(body, what));
            default: return differs("count(" + what + ")", () -> real.count(what), () -> plain.count(what));
        }
    }

    private boolean callDiffers() {
        int drawn = random.nextInt(20);
        if (drawn < 4) {
            return padDiffers();
        } else if (drawn < 6) {
            return addDiffers();
        } else if (drawn < 9) {
            return moveDiffers();
        } else if (drawn < 10) {
            return bodyDiffers();
        } else if (drawn < 12) {
            return differs("update()", real::update, plain::update);
        } else if (drawn < 14) {
            return searchDiffers();
        }
        return questionDiffers();
    }

    /**
     * With these calls a run is longer than the 512 that the document promises for; they change nothing,
     * and PairFinder does not count its calls, so that the run's own calls answer as they would without them.
     */
    private boolean stateDiffers() {
        for (int what = -1; what <= 7; what++) {
            int asked = what;
            if (differs("count(" + what + ")", () -> real.count(asked), () -> plain.count(asked))) {
                return true;
            }
        }
        for (int which = 0; which < 3; which++) {
            if (pairsDiffer(which)) {
                return true;
            }
        }
        for (int k = 0; k < real.count(6); k++) {
            int asked = k;
            if (differs("found(" + k + ")", () -> real.found(asked), () -> plain.found(asked))
                    || differs("where(" + k + ")", () -> real.where(asked), () -> plain.where(asked))) {
                return true;
            }
        }
        return bodiesDiffer() || differs("nearest()", real::nearest, plain::nearest);
    }

    /** A few places alone, as PlainFinder makes a list for each. */
    private boolean pairsDiffer(int which) {
        int size = real.count(which + 1);
        for (int k = 0; k <= size; k += 1 + size / 16) {
            int asked = k;
            if (differs("pair(" + which + ", " + k + ")", () -> real.pair(which, asked), () -> plain.pair(which, asked))) {
                return true;
            }
        }
        return false;
    }

    private boolean bodiesDiffer() {
        for (int body = 0; body < 512; body += 1 + random.nextInt(6)) {
            int asked = body;
            for (int what = 0; what < 12; what++) {
                int corner = what;
                if (differs("corner(" + body + ", " + what + ")", () -> real.corner(asked, corner), () -> plain.corner(asked, corner))) {
                    return true;
                }
            }
            int what = random.nextInt(4);
            if (differs("about(" + body + ", " + what + ")", () -> real.about(asked, what), () -> plain.about(asked, what))) {
                return true;
            }
        }
        return false;
    }

    private boolean runDiffers() {
        for (int call = 0; call < CALLS; call++) {
            if (callDiffers()) {
                return true;
            }
            boolean threw = told.getLast().contains("throws.");
            if ((call % 64 == 63 || threw && random.nextInt(8) == 0) && stateDiffers()) {
                return true;
            }
        }
        return false;
    }

    public static void main(String[] args) {
        int wrong = 0;
        for (int seed = 0; seed < RUNS; seed++) {
            if (new ModelTest(seed).runDiffers()) {
                System.out.println("run " + seed + " differs");
                wrong++;
            }
        }
        System.out.println(wrong == 0 ? "all runs are as the plain finder's" : wrong + " runs differ");
        if (wrong != 0) {
            System.exit(1);
        }
    }
}
