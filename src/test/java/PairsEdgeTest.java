/** The edges that promises 10 to 12 name, each sentence by itself: the pairs, and what began and ended. */
public final class PairsEdgeTest {
    private static final int MOST = 16384;
    private static final int OF_ALL = 512 * 511 / 2;

    /** 181 bodies in one place make 16290 pairs; a chain of 95 elsewhere makes the 94 that lack to 16384. */
    private static void most(PairFinder x) {
        Due.pad(x, 0, 8);
        x.addRow(181, 0, 0, 0, 1, 1);
        Due.pad(x, 100, 108);
        x.addRow(95, 8.25f, 0, 0, 1, 1);
    }

    private static void updateOfNothing() {
        Due.sentence("10 update", "the pairs become all those of bodies that are there and let through and whose wide boxes overlap: how many");
        PairFinder x = new PairFinder();
        Due.same("of no bodies", x.update(), 0);
        Due.same("it is counted", x.count(4), 1);
        x.add(-1, -1);
        Due.same("of one body, which is no pair with itself", x.update(), 0);
        x.add(-1, -1);
        Due.same("of two", x.update(), 1);
        x.remove(0);
        Due.same("of one again", x.update(), 0);
        x.remove(1);
        Due.same("of none again", x.update(), 0);
        PairFinder full = new PairFinder();
        full.addRow(512, 0, 0, 0, 1, 2);
        Due.same("of 512 that are not let through", full.update(), 0);
    }

    private static void begunAndEnded() {
        Due.sentence("10 update", "BEGUN are those that were none before, ENDED those that were before and are none");
        PairFinder x = Due.after(y -> y.addRow(3, 0, 0, 0, 1, 1));
        told(x, 3, 3, 0);
        told(x, 3, 0, 0);
        x.filter(1, 0, 0);
        told(x, 1, 0, 2);
        Due.same("the first that ended", x.pair(2, 0), 1);
        Due.same("the last that ended", x.pair(2, 1), 512 + 2);
        x.filter(1, 1, 1);
        x.filter(1, 0, 0);
        told(x, 1, 0, 0);
        x.filter(1, 1, 1);
        x.shift(2, 2, 50, 0, 0);
        told(x, 1, 1, 1);
        Due.same("that began", x.pair(1, 0), 1);
        Due.same("that ended", x.pair(2, 0), 2);
        x.shift(0, 0, -50, 0, 0);
        told(x, 0, 0, 1);

        Due.sentence("PAIRS", "but for those of a body that was removed since");
        PairFinder y = Due.after(z -> z.addRow(3, 0, 0, 0, 1, 1));
        told(y, 3, 3, 0);
        y.remove(1);
        told(y, 1, 0, 0);
        y.add(1, 1);
        told(y, 3, 2, 0);
        y.remove(1);
        y.add(1, 1);
        told(y, 3, 2, 0);
        Due.same("the first of a removed and new body begins again", y.pair(1, 0), 1);
        y.remove(1);
        Due.pad(y, 50, 51);
        y.add(1, 1);
        told(y, 1, 0, 0);
    }

    private static void told(PairFinder x, int pairs, int begun, int ended) {
        Due.same("update()", x.update(), pairs);
        Due.same("pairs", x.count(1), pairs);
        Due.same("begun", x.count(2), begun);
        Due.same("ended", x.count(3), ended);
    }

    private static void atMost16384() {
        Due.sentence("10 update", "IllegalStateException: there would be more than 16384");
        PairFinder x = Due.after(PairsEdgeTest::most);
        Due.same("16384", x.update(), MOST);
        Due.same("all have begun", x.count(2), MOST);
        Due.same("16384 again", x.update(), MOST);
        Due.same("none has begun", x.count(2), 0);
        x.shift(275, 275, 0, 50, 0);
        x.low(91.5f, 100, 100);
        x.high(99.5f, 108, 108);
        x.add(1, 1);
        Due.same("one ended and one began", x.update(), MOST);
        Due.same("that began", x.pair(1, 0), 181 * 512 + 276);
        Due.same("that ended", x.pair(2, 0), 274 * 512 + 275);
        x.shift(0, 180, 0, 0, 200);
        Due.same("all of them moved together", x.update(), MOST);
    }

    private static void moreIsRefused() {
        Due.Calls oneMore = x -> {
            most(x);
            x.update();
            x.low(91.5f, 100, 100);
            x.high(99.5f, 108, 108);
            x.add(1, 1);
        };
        new Refusals(oneMore).refused("16385 where 16384 are", Due.STATE, PairFinder::update);
        Due.Calls atFirst = x -> {
            most(x);
            x.low(91.5f, 100, 100);
            x.high(99.5f, 108, 108);
            x.add(1, 1);
        };
        new Refusals(atFirst).refused("16385 at first", Due.STATE, PairFinder::update);
        Due.Calls all = x -> {
            Due.busy(x);
            x.addRow(505, 0, 0, 0, 3, 3);
        };
        new Refusals(all).refused("505 in one place, with pairs begun and ended before", Due.STATE, PairFinder::update);
        Due.Calls byFilter = x -> {
            x.addRow(512, 0, 0, 0, 0, 0);
            x.update();
            for (int body = 0; body < 182; body++) {
                x.filter(body, 1, 1);
            }
        };
        new Refusals(byFilter).refused("182 let through all at once", Due.STATE, PairFinder::update);
        PairFinder x = Due.after(y -> y.addRow(512, 0, 0, 0, 1, 1));
        Due.fails(OF_ALL + " pairs", Due.STATE, x, PairFinder::update);
    }

    private static void goesOnAfterARefusal() {
        Due.sentence("EXCEPTIONS", "such a call changes nothing");
        PairFinder x = Due.after(y -> {
            y.addRow(3, 0, 0, 0, 1, 1);
            y.update();
            y.filter(0, 0, 0);
            y.addRow(190, 0, 0, 0, 1, 1);
        });
        for (int call = 0; call < 3; call++) {
            Due.fails("more than 16384", Due.STATE, x, PairFinder::update);
        }
        Due.same("begun before", x.count(2), 3);
        Due.same("updates", x.count(4), 1);
        Due.same("touched", x.count(5), 191);
        for (int body = 3; body < 193; body++) {
            x.remove(body);
        }
        told(x, 1, 0, 2);
        Due.same("updates", x.count(4), 2);
    }

    private static void pairs() {
        Due.sentence("11 pair", "pair k, from the lowest on (which = 0); of those that began (1) or ended (2)");
        PairFinder x = Due.after(PairsEdgeTest::most);
        x.update();
        Due.same("the lowest of 16384", x.pair(0, 0), 1);
        Due.same("the last with body 0", x.pair(0, 179), 180);
        Due.same("the first with body 1", x.pair(0, 180), 512 + 2);
        Due.same("the last of the one place", x.pair(0, 16289), 179 * 512 + 180);
        Due.same("the first of the chain", x.pair(0, 16290), 181 * 512 + 182);
        Due.same("the highest of 16384", x.pair(0, MOST - 1), 274 * 512 + 275);
        Due.same("the highest that began", x.pair(1, MOST - 1), 274 * 512 + 275);
        for (int body = 0; body < 181; body++) {
            x.filter(body, 0, 0);
        }
        Due.same("all but the chain ended", x.update(), 94);
        Due.same("the lowest that ended", x.pair(2, 0), 1);
        Due.same("the highest that ended", x.pair(2, 16289), 179 * 512 + 180);
        Due.fails("behind those that ended", Due.PLACE, x, y -> y.pair(2, 16290));

        Due.sentence("11 pair", "IndexOutOfBoundsException: there is none such, or which is not 0 .. 2");
        Refusals none = new Refusals(y -> { });
        Refusals busy = new Refusals(Due::busy);
        PairFinder sizes = Due.after(Due::busy);
        for (int which = 0; which <= 2; which++) {
            int asked = which;
            int size = sizes.count(which + 1);
            Due.holds("there are some of kind " + which, size > 0);
            none.refused("pair(" + which + ", 0)", Due.PLACE, y -> y.pair(asked, 0));
            for (int k : new int[] {-1, size, size + 1, MOST, Integer.MIN_VALUE, Integer.MAX_VALUE}) {
                busy.refused("pair(" + which + ", " + k + ")", Due.PLACE, y -> y.pair(asked, k));
            }
            sizes.pair(which, 0);
            sizes.pair(which, size - 1);
        }
        for (int which : new int[] {-1, 3, Integer.MIN_VALUE, Integer.MAX_VALUE}) {
            none.refused("pair(" + which + ", 0)", Due.PLACE, y -> y.pair(which, 0));
            busy.refused("pair(" + which + ", 0)", Due.PLACE, y -> y.pair(which, 0));
        }
        Due.fails("behind 16384", Due.PLACE, Due.after(y -> { most(y); y.update(); }), y -> y.pair(0, MOST));
        PairFinder chain = Due.after(Due::full);
        Due.same("the last of a full chain", chain.pair(0, 510), 510 * 512 + 511);
        chain.remove(511);
        Due.same("the last behind a removal", chain.pair(0, 509), 509 * 512 + 510);
        Due.fails("the removed one", Due.PLACE, chain, y -> y.pair(0, 510));
        Due.same("it is still the last that began", chain.pair(1, 510), 510 * 512 + 511);
        Due.fails("behind it", Due.PLACE, chain, y -> y.pair(1, 511));
    }

    private static void paired() {
        Due.sentence("12 paired", "whether two bodies are a pair, in either order");
        PairFinder x = Due.after(y -> {
            y.add(1, 2);
            y.addRow(510, 0, 0, 0, 0, 0);
            y.add(2, 1);
        });
        Due.holds("the first and the last are none before the update", !x.paired(0, 511));
        x.update();
        Due.holds("the first and the last", x.paired(0, 511));
        Due.holds("the last and the first", x.paired(511, 0));
        Due.holds("their neighbours are none", !x.paired(0, 510) && !x.paired(1, 511) && !x.paired(511, 1) && !x.paired(510, 0));
        Due.holds("a body and itself are none", !x.paired(0, 0) && !x.paired(511, 511) && !x.paired(1, 1));
        x.filter(0, 0, 0);
        Due.holds("a pair until the update", x.paired(0, 511));
        x.update();
        Due.holds("none behind it", !x.paired(0, 511) && !x.paired(511, 0));

        Due.sentence("12 paired", "IndexOutOfBoundsException: one of them is not there");
        Refusals busy = new Refusals(Due::busy);
        for (int body : new int[] {5, 8, 511, 512, -1, Integer.MIN_VALUE, Integer.MAX_VALUE}) {
            busy.refused("the first is " + body, Due.PLACE, y -> y.paired(body, 0));
            busy.refused("the second is " + body, Due.PLACE, y -> y.paired(0, body));
            busy.refused("both are " + body, Due.PLACE, y -> y.paired(body, body));
        }
        PairFinder full = Due.after(Due::full);
        for (int body : Due.NO_BODIES) {
            Due.fails("the first of all is " + body, Due.PLACE, full, y -> y.paired(body, 511));
            Due.fails("the second of all is " + body, Due.PLACE, full, y -> y.paired(511, body));
        }
        new Refusals(y -> { }).refused("of none", Due.PLACE, y -> y.paired(0, 0));
    }

    public static void main(String[] args) {
        updateOfNothing();
        begunAndEnded();
        atMost16384();
        moreIsRefused();
        goesOnAfterARefusal();
        pairs();
        paired();
        Due.end("the edges of promises 10 to 12");
    }
}
