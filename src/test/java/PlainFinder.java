import java.util.ArrayList;
import java.util.List;
import java.util.TreeMap;
import java.util.TreeSet;

/**
 * The document read as plainly as can be, slow and with the library's collections, for ModelTest to
 * hold PairFinder against. It shares no code with PairFinder and is built otherwise: every update looks
 * at all pairs anew.
 */
final class PlainFinder {
    private static final class Body {
        float[] tight;
        float[] wide;
        int group;
        int mask;
    }

    private float[] pad = new float[6];
    private final TreeMap<Integer, Body> bodies = new TreeMap<>();
    private final TreeSet<Integer> touched = new TreeSet<>();
    private TreeSet<Integer> pairs = new TreeSet<>();
    private TreeSet<Integer> begun = new TreeSet<>();
    private TreeSet<Integer> ended = new TreeSet<>();
    private int updates = 0;
    private List<Integer> found = new ArrayList<>();
    private List<Float> floats = new ArrayList<>();

    void low(float x, float y, float z) {
        argument(good(x) && good(y) && good(z));
        pad = new float[] {x, y, z, pad[3], pad[4], pad[5]};
    }

    void high(float x, float y, float z) {
        argument(good(x) && good(y) && good(z));
        pad = new float[] {pad[0], pad[1], pad[2], x, y, z};
    }

    int add(int group, int mask) {
        argument(isBox(pad));
        state(bodies.size() < 512);
        return put(pad, group, mask);
    }

    int addRow(int n, float dx, float dy, float dz, int group, int mask) {
        argument(n >= 1 && n <= 512 && isBox(pad) && step(dx) && step(dy) && step(dz));
        List<float[]> row = new ArrayList<>();
        row.add(pad);
        while (row.size() < n) {
            float[] next = plus(row.get(row.size() - 1), dx, dy, dz);
            argument(allGood(next));
            row.add(next);
        }
        state(512 - bodies.size() >= n);
        int last = -1;
        for (float[] box : row) {
            last = put(box, group, mask);
        }
        return last;
    }

    boolean move(int body, float dx, float dy, float dz) {
        place(bodies.containsKey(body));
        argument(isBox(pad) && step(dx) && step(dy) && step(dz));
        return moveTo(body, pad, dx, dy, dz);
    }

    int shift(int from, int to, float dx, float dy, float dz) {
        place(from >= 0 && from <= 511 && to >= 0 && to <= 511 && from <= to);
        argument(step(dx) && step(dy) && step(dz));
        int became = 0;
        for (int body : bodies.subMap(from, true, to, true).keySet()) {
            float[] box = plus(bodies.get(body).tight, dx, dy, dz);
            if (allGood(box) && moveTo(body, box, dx, dy, dz)) {
                became++;
            }
        }
        return became;
    }

    void filter(int body, int group, int mask) {
        place(bodies.containsKey(body));
        bodies.get(body).group = group;
        bodies.get(body).mask = mask;
        touched.add(body);
    }

    int remove(int body) {
        place(bodies.containsKey(body));
        int before = pairs.size();
        pairs.removeIf(pair -> pair / 512 == body || pair % 512 == body);
        bodies.remove(body);
        touched.remove(body);
        return before - pairs.size();
    }

    int update() {
        TreeSet<Integer> now = new TreeSet<>();
        Body[] all = new Body[512];
        bodies.forEach((number, body) -> all[number] = body);
        for (int a = 0; a < 512; a++) {
            for (int b = a + 1; b < 512; b++) {
                Body p = all[a];
                Body q = all[b];
                if (p != null && q != null && (p.group & q.mask) != 0 && (q.group & p.mask) != 0 && overlap(p.wide, q.wide)) {
                    now.add(a * 512 + b);
                }
            }
        }
        state(now.size() <= 16384);
        begun = new TreeSet<>(now);
        begun.removeAll(pairs);
        ended = new TreeSet<>(pairs);
        ended.removeAll(now);
        pairs = now;
        touched.clear();
        updates++;
        return pairs.size();
    }

    int pair(int which, int k) {
        place(which >= 0 && which <= 2);
        List<Integer> told = new ArrayList<>(which == 0 ? pairs : which == 1 ? begun : ended);
        place(k >= 0 && k < told.size());
        return told.get(k);
    }

    boolean paired(int a, int b) {
        place(bodies.containsKey(a) && bodies.containsKey(b));
        return pairs.contains(Math.min(a, b) * 512 + Math.max(a, b)) && a != b;
    }

    int overlapping(int mask) {
        argument(isBox(pad));
        found = new ArrayList<>();
        floats = new ArrayList<>();
        for (int body : bodies.keySet()) {
            if ((bodies.get(body).group & mask) != 0 && overlap(bodies.get(body).wide, pad)) {
                found.add(body);
                floats.add(0f);
            }
        }
        return found.size();
    }

    int meeting(int mask) {
        found = new ArrayList<>();
        floats = new ArrayList<>();
        for (int body : bodies.keySet()) {
            Float enter = enter(bodies.get(body).wide);
            if ((bodies.get(body).group & mask) != 0 && enter != null) {
                found.add(body);
                floats.add(enter);
            }
        }
        return found.size();
    }

    int found(int k) {
        place(k >= 0 && k < found.size());
        return found.get(k);
    }

    float where(int k) {
        place(k >= 0 && k < found.size());
        return floats.get(k);
    }

    int nearest() {
        int best = -1;
        float least = Float.POSITIVE_INFINITY;
        for (int k = 0; k < found.size(); k++) {
            if (floats.get(k) < least) {
                least = floats.get(k);
                best = found.get(k);
            }
        }
        return best;
    }

    float corner(int body, int what) {
        place(bodies.containsKey(body) && what >= 0 && what <= 11);
        return what < 6 ? bodies.get(body).wide[what] : bodies.get(body).tight[what - 6];
    }

    int about(int body, int what) {
        place(bodies.containsKey(body) && what >= 0 && what <= 3);
        int in = (int) pairs.stream().filter(pair -> pair / 512 == body || pair % 512 == body).count();
        return new int[] {bodies.get(body).group, bodies.get(body).mask, in, touched.contains(body) ? 1 : 0}[what];
    }

    int count(int what) {
        place(what >= 0 && what <= 6);
        return new int[] {bodies.size(), pairs.size(), begun.size(), ended.size(), updates, touched.size(), found.size()}[what];
    }

    private int put(float[] box, int group, int mask) {
        int number = 0;
        while (bodies.containsKey(number)) {
            number++;
        }
        Body body = new Body();
        body.tight = box;
        body.wide = widened(box, 0, 0, 0);
        body.group = group;
        body.mask = mask;
        bodies.put(number, body);
        touched.add(number);
        return number;
    }

    private boolean moveTo(int number, float[] box, float dx, float dy, float dz) {
        Body body = bodies.get(number);
        body.tight = box;
        boolean lies = true;
        for (int axis = 0; axis < 3; axis++) {
            lies &= !(box[axis] < body.wide[axis]) && !(box[axis + 3] > body.wide[axis + 3]);
        }
        if (!lies) {
            body.wide = widened(box, dx, dy, dz);
            touched.add(number);
        }
        return !lies;
    }

    private static float[] widened(float[] box, float... d) {
        float[] wide = new float[6];
        for (int axis = 0; axis < 3; axis++) {
            wide[axis] = box[axis] - 0.25f;
            wide[axis + 3] = box[axis + 3] + 0.25f;
            if (d[axis] < 0) {
                wide[axis] = wide[axis] + d[axis] * 2f;
            } else {
                wide[axis + 3] = wide[axis + 3] + d[axis] * 2f;
            }
        }
        return wide;
    }

    private Float enter(float[] wide) {
        float enter = 0f;
        float leave = 1f;
        for (int axis = 0; axis < 3; axis++) {
            float d = pad[axis + 3] - pad[axis];
            if (d == 0f) {
                if (pad[axis] < wide[axis] || pad[axis] > wide[axis + 3]) {
                    return null;
                }
                continue;
            }
            float a = (wide[axis] - pad[axis]) / d;
            float b = (wide[axis + 3] - pad[axis]) / d;
            if (a > b) {
                float kept = a;
                a = b;
                b = kept;
            }
            if (a > enter) {
                enter = a;
            }
            if (b < leave) {
                leave = b;
            }
        }
        return enter > leave ? null : Float.valueOf(enter);
    }

    private static float[] plus(float[] box, float dx, float dy, float dz) {
        return new float[] {box[0] + dx, box[1] + dy, box[2] + dz, box[3] + dx, box[4] + dy, box[5] + dz};
    }

    private static boolean overlap(float[] p, float[] q) {
        return p[0] <= q[3] && p[1] <= q[4] && p[2] <= q[5] && q[0] <= p[3] && q[1] <= p[4] && q[2] <= p[5];
    }

    private static boolean isBox(float[] box) {
        return box[0] <= box[3] && box[1] <= box[4] && box[2] <= box[5];
    }

    private static boolean good(float number) {
        return number >= -16384f && number <= 16384f;
    }

    private static boolean allGood(float[] box) {
        return good(box[0]) && good(box[1]) && good(box[2]) && good(box[3]) && good(box[4]) && good(box[5]);
    }

    private static boolean step(float d) {
        return d >= -256f && d <= 256f;
    }

    private static void place(boolean holds) {
        if (!holds) {
            throw new IndexOutOfBoundsException();
        }
    }

    private static void argument(boolean holds) {
        if (!holds) {
            throw new IllegalArgumentException();
        }
    }

    private static void state(boolean holds) {
        if (!holds) {
            throw new IllegalStateException();
        }
    }
}
