/** The edges that promises 18 to 20 name, each sentence by itself: what can be asked of the bodies and of the object. */
public final class ToldEdgeTest {
    private static final Refusals OF_EMPTY = new Refusals(x -> { });
    private static final Refusals OF_BUSY = new Refusals(Due::busy);
    private static final Refusals OF_FULL = new Refusals(Due::full);
    private static final int[] WRONG_WHATS = {-1, Integer.MIN_VALUE, Integer.MAX_VALUE};

    private interface Question {
        void ask(PairFinder x, int body, int what);
    }

    private static void corner() {
        Due.sentence("18 corner", "its wide box (what = 0, 1, 2 the low corner's x, y, z; 3, 4, 5 the high one's), its tight box (6 .. 11)");
        PairFinder x = Due.after(y -> {
            y.addRow(511, 0, 0, 0, 1, 1);
            y.low(-1, -2, -3);
            y.high(4, 5, 6);
            y.add(1, 1);
            y.low(-1.125f, -2, -3);
            y.move(511, 0, 0, 0);
        });
        Due.corners("the last body", x, 511, 0, -1.25f, -2.25f, -3.25f, 4.25f, 5.25f, 6.25f, -1.125f, -2, -3, 4, 5, 6);
        Due.corners("the first body", x, 0, 0, -0.25f, -0.25f, -0.25f, 0.25f, 0.25f, 0.25f, 0, 0, 0, 0, 0, 0);

        Due.sentence("18 corner", "IndexOutOfBoundsException");
        refusesBodiesAndWhats("corner", 12, PairFinder::corner);
    }

    private static void about() {
        Due.sentence("19 about", "its group (what = 0), its mask (1)");
        PairFinder x = Due.after(y -> {
            y.addRow(511, 0, 0, 0, 4, 2);
            y.add(2, 4);
        });
        Due.same("the first body's group", x.about(0, 0), 4);
        Due.same("the first body's mask", x.about(0, 1), 2);
        Due.same("the last body's group", x.about(511, 0), 2);
        Due.same("the last body's mask", x.about(511, 1), 4);

        Due.sentence("19 about", "in how many pairs it is (2)");
        Due.same("before the first update", x.about(511, 2), 0);
        x.update();
        Due.same("with all others", x.about(511, 2), 511);
        Due.same("with one", x.about(0, 2), 1);
        x.filter(0, 0, 0);
        Due.same("as at the latest update", x.about(0, 2), 1);
        x.update();
        Due.same("with none", x.about(0, 2), 0);
        Due.same("with all others but one", x.about(511, 2), 510);
        x.remove(1);
        Due.same("but for a removed one", x.about(511, 2), 509);

        Due.sentence("19 about", "whether it is touched (3; 1 or 0)");
        Due.same("untouched", x.about(511, 3), 0);
        x.filter(511, 2, 4);
        Due.same("touched", x.about(511, 3), 1);
        x.filter(511, 2, 4);
        Due.same("touched twice", x.about(511, 3), 1);

        Due.sentence("19 about", "IndexOutOfBoundsException");
        refusesBodiesAndWhats("about", 4, PairFinder::about);
    }

    /** A question of a body takes what 0 .. whats - 1. */
    private static void refusesBodiesAndWhats(String name, int whats, Question question) {
        for (int body : Due.NO_BODIES) {
            OF_FULL.refused(name + "(" + body + ", 0)", Due.PLACE, x -> question.ask(x, body, 0));
        }
        for (int body : new int[] {5, 8, 511, -1, 512}) {
            OF_BUSY.refused(name + "(" + body + ", 0)", Due.PLACE, x -> question.ask(x, body, 0));
            OF_BUSY.refused(name + "(" + body + ", " + (whats - 1) + ")", Due.PLACE, x -> question.ask(x, body, whats - 1));
            OF_BUSY.refused(name + "(" + body + ", " + whats + ")", Due.PLACE, x -> question.ask(x, body, whats));
        }
        OF_EMPTY.refused(name + "(0, 0)", Due.PLACE, x -> question.ask(x, 0, 0));
        OF_BUSY.refused(name + "(0, " + whats + ")", Due.PLACE, x -> question.ask(x, 0, whats));
        OF_BUSY.refused(name + "(7, " + (whats + 1) + ")", Due.PLACE, x -> question.ask(x, 7, whats + 1));
        for (int what : WRONG_WHATS) {
            OF_BUSY.refused(name + "(0, " + what + ")", Due.PLACE, x -> question.ask(x, 0, what));
            OF_FULL.refused(name + "(511, " + what + ")", Due.PLACE, x -> question.ask(x, 511, what));
        }
        for (int what = 0; what < whats; what++) {
            question.ask(Due.after(Due::full), 0, what);
            question.ask(Due.after(Due::full), 511, what);
        }
    }

    private static void count() {
        Due.sentence("20 count", "0 bodies that are there");
        PairFinder x = new PairFinder();
        Due.same("none", x.count(0), 0);
        x.addRow(511, 0, 0, 0, 0, 0);
        Due.same("511", x.count(0), 511);
        x.add(0, 0);
        Due.same("all", x.count(0), 512);
        Due.sentence("20 count", "5 bodies that are touched");
        Due.same("all", x.count(5), 512);
        x.remove(0);
        x.remove(511);
        Due.same("a removed one is not", x.count(5), 510);
        x.filter(1, 1, 1);
        Due.same("one touched twice", x.count(5), 510);
        x.update();
        Due.same("none", x.count(5), 0);
        x.add(0, 0);
        Due.same("a number that is there again", x.count(5), 1);

        Due.sentence("20 count", "1 pairs, 2 those that began and 3 that ended with the latest update");
        PairFinder y = Due.after(z -> z.addRow(181, 0, 0, 0, 1, 1));
        counts(y, 0, 0, 0);
        y.update();
        counts(y, 16290, 16290, 0);
        y.update();
        counts(y, 16290, 0, 0);
        y.shift(0, 0, 9, 9, 9);
        counts(y, 16290, 0, 0);
        y.update();
        counts(y, 16110, 0, 180);
        y.remove(1);
        counts(y, 15931, 0, 180);
        y.add(1, 1);
        counts(y, 15931, 0, 180);
        y.update();
        counts(y, 16110, 179, 0);

        Due.sentence("20 count", "4 updates since the beginning");
        PairFinder z = new PairFinder();
        for (int updates = 0; updates < 170; updates++) {
            Due.same("updates", z.count(4), updates);
            z.update();
        }
        z.addRow(182, 0, 0, 0, 1, 1);
        Due.fails("an update that is refused", Due.STATE, z, PairFinder::update);
        Due.same("is not counted", z.count(4), 170);

        Due.sentence("20 count", "6 bodies in FOUND");
        PairFinder found = Due.after(f -> f.addRow(512, 0, 0, 0, 1, 0));
        Due.same("none", found.count(6), 0);
        found.overlapping(1);
        Due.same("all", found.count(6), 512);
        found.remove(0);
        found.update();
        Due.same("all, though one is removed", found.count(6), 512);
        found.meeting(1);
        Due.same("all but that", found.count(6), 511);
        found.meeting(2);
        Due.same("none again", found.count(6), 0);
    }

    private static void counts(PairFinder x, int pairs, int begun, int ended) {
        Due.same("count(1)", x.count(1), pairs);
        Due.same("count(2)", x.count(2), begun);
        Due.same("count(3)", x.count(3), ended);
    }

    private static void countRefuses() {
        Due.sentence("20 count", "IndexOutOfBoundsException: none of these");
        for (int what : new int[] {-1, 7, 8, Integer.MIN_VALUE, Integer.MAX_VALUE}) {
            OF_EMPTY.refused("count(" + what + ")", Due.PLACE, x -> x.count(what));
            OF_BUSY.refused("count(" + what + ")", Due.PLACE, x -> x.count(what));
            OF_FULL.refused("count(" + what + ")", Due.PLACE, x -> x.count(what));
        }
    }

    public static void main(String[] args) {
        corner();
        about();
        count();
        countRefuses();
        Due.end("the edges of promises 18 to 20");
    }
}
