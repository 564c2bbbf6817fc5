import java.math.BigInteger;

/** Boundary cases of promises 15 to 21, 29 and 30: runs, what is best in them, the order of gathering, chance. */
public final class RunEdgeTest {
    private static final int NONE = Edge.NONE;
    private static final int NO = Edge.NO;

    /** A call with the ticks of its run. */
    private interface RunCall {
        long on(SkyChairs x, int n);
    }

    private RunEdgeTest() {
    }

    public static void main(String[] args) {
        runs();
        runAsItIs();
        manyRefused();
        manyEdges();
        whenRefused();
        whenEdges();
        whenAtTheBegin();
        wayRefused();
        wayEdges();
        bestRefused();
        bestEdges();
        secondRefused();
        secondEdges();
        gatherRefused();
        gatherEdges();
        gatherWalks();
        triedRefused();
        triedRainAndWets();
        triedOthers();
        triedAndThenAsItIs();
        chanceRefused();
        chanceEdges();
        Check.end();
    }

    private static void holds(int promise, String sentence, long got, long want) {
        Edge.holds(promise, sentence, got, want);
    }

    /** No such n, ahead of the first tick, among them, behind the last; and all stays with such a one. */
    private static void noSuchRun(int promise, RunCall call, long want) {
        for (int n : new int[] {-1, 97, Edge.MIN, Edge.MAX}) {
            Edge.refused(promise, "no such n " + n, x -> call.on(x, n), want);
        }
        Edge.leaves(promise, "the next tick and n above 96: 6 and 91", Edge::busy, x -> call.on(x, 91), want);
        Edge.leaves(promise, "the next tick and n above 96: 96 and 1", Edge::late, x -> call.on(x, 1), want);
        isARun(promise, "0 and 96", Edge::early, call, 96, want);
        isARun(promise, "0 and 0", Edge::early, call, 0, want);
        isARun(promise, "6 and 90", Edge::busy, call, 90, want);
        isARun(promise, "96 and 0", Edge::late, call, 0, want);
    }

    private static void isARun(int promise, String sentence, Edge.Made made, RunCall call, int n, long refused) {
        long answer = call.on(made.make(), n);
        Edge.holds(promise, "a run: " + sentence, answer != refused, true);
        Edge.leaves(promise, "a run changes nothing: " + sentence, made, x -> call.on(x, n), answer);
    }

    private static void noSuchWhat(int promise, RunCall call, long want, int... whats) {
        for (int what : whats) {
            Edge.refused(promise, "no such what " + what, x -> call.on(x, what), want);
        }
    }

    private static SkyChairs walked(String text, int chairs, int places, int ticks) {
        SkyChairs x = Check.told(text);
        x.put(0, chairs);
        x.route(places, 0x43210);
        x.ticks(ticks);
        return x;
    }

    // ---- Promise 15

    private static void runs() {
        noSuchRun(15, SkyChairs::run, NO);
        holds(15, "0 ticks: the balance that there is", Edge.busy().run(0), Edge.busy().sum(7));
        holds(15, "0 ticks behind the last", Edge.late().run(0), Edge.late().sum(7));
        holds(15, "all ticks without a text", Edge.fresh().run(96), 0);
        holds(15, "no more ticks without a text", Edge.fresh().run(97), NO);
    }

    private static void runAsItIs() {
        for (int n : new int[] {0, 1, 2, 5, 30, 89, 90}) {
            SkyChairs x = Edge.busy();
            int balance = x.run(n);
            x.ticks(n);
            holds(15, "with the same numbers as the ticks themselves: " + n, x.sum(7), balance);
        }
        SkyChairs x = walked("place a 1 1;chairs 1;price 7;come 0 1;come 5 1;law stay 1;", 1, 1, 1);
        holds(15, "from now on, with what there was", x.run(4), 7);
        holds(15, "up to its last tick", x.run(5), 14);
    }

    // ---- Promise 16

    private static void manyRefused() {
        noSuchRun(16, (x, n) -> x.many(1, n, 1), NO);
        noSuchWhat(16, (x, what) -> x.many(1, 0, what), NO, -1, 2, Edge.MIN, Edge.MAX);
        for (int place : new int[] {-1, 2, 5, Edge.MIN, Edge.MAX}) {
            Edge.refused(16, "no such place " + place, x -> x.many(place, 0, 0), NO);
        }
        Edge.leaves(16, "no places", Edge::fresh, x -> x.many(0, 0, 0), NO);
    }

    private static void manyEdges() {
        String text = "place a 1 1;chairs 40;carry 1;price 5;come 0 20;come 0 20;";
        SkyChairs x = walked(text, 0, 1, 0);
        holds(16, "all stacked, whatever carry says", x.many(0, 1, 0), 40);
        holds(16, "their balance", x.many(0, 1, 1), 200);
        holds(16, "of several the fewest: none with 0 ticks", x.many(0, 0, 0), 0);
        SkyChairs y = walked(text, 1, 1, 0);
        holds(16, "carry is used up, too", y.many(0, 1, 0), 39);
        holds(16, "with the one that is out", y.many(0, 1, 1), 200);
        SkyChairs z = walked("place a 1 1;chairs 3;price 5;come 0 9;", 3, 1, 0);
        holds(16, "none is stacked", z.many(0, 1, 0), 0);
        holds(16, "none is stacked: balance", z.many(0, 1, 1), 15);
        holds(16, "no chairs", Check.told("place a 1 1;").many(0, 96, 0), 0);
        SkyChairs w = walked("place a 1 1;chairs 9;price 5;come 0 4;", 0, 1, 0);
        holds(16, "of several the fewest: four come", w.many(0, 5, 0), 4);
        SkyChairs v = walked("place a 1 1 tide 0;chairs 9;price 5;come 0 4;", 0, 1, 0);
        holds(16, "0 is the least: all would be lost", v.many(0, 5, 0), 0);
        holds(16, "0 is the least: balance", v.many(0, 5, 1), 0);
        SkyChairs u = walked("place a 1 1 tide 1;chairs 9;price 6;canvas 5;come 0 4;", 0, 1, 0);
        holds(16, "each that is paid for, though lost", u.many(0, 2, 0), 4);
        holds(16, "each that is paid for: balance", u.many(0, 2, 1), 4);
    }

    // ---- Promise 17

    private static void whenRefused() {
        noSuchRun(17, (x, n) -> x.when(n, 0), NO);
        noSuchWhat(17, (x, what) -> x.when(0, what), NO, -1, 2, Edge.MIN, Edge.MAX);
    }

    private static void whenEdges() {
        SkyChairs x = walked("place a 1 1;chairs 3;carry 3;price 5;come 3 1;", 3, 1, 0);
        holds(17, "the one behind the last: never", x.when(4, 0), 4);
        holds(17, "never: balance", x.when(4, 1), 5);
        holds(17, "of several the first: nobody comes", x.when(3, 0), 0);
        holds(17, "of several the first: behind who sits", x.when(9, 0), 4);
        holds(17, "0 ticks: the one that is next", x.when(0, 0), 0);
        x.ticks(2);
        holds(17, "ticks are told from 0 on", x.when(2, 0), 4);
        holds(17, "the first of a later run", x.when(1, 0), 2);
        x.ticks(94);
        holds(17, "0 ticks behind the last", x.when(0, 0), 96);
        holds(17, "0 ticks behind the last: balance", x.when(0, 1), 5);
        SkyChairs y = walked("place a 1 1;chairs 1;come 95 1;price 5;", 1, 1, 0);
        holds(17, "never: the whole day", y.when(96, 0), 96);
        SkyChairs z = walked("place a 1 1 tide 95;chairs 1;", 1, 1, 0);
        z.ticks(50);
        holds(17, "in time", z.when(46, 1), 0);
        holds(17, "without a text", Edge.fresh().when(96, 0), 0);
    }

    private static void whenAtTheBegin() {
        // One sits from tick 4 on and goes on tick 5, behind the begin of it.
        String text = "place a 1 1#;chairs 2;price 3;canvas 2;wets 1;come 4 1;law stay 1;";
        SkyChairs tide = walked(text.replace("#", " tide 5"), 2, 1, 0);
        holds(17, "ahead of the tide of that tick", tide.when(6, 0), 5);
        holds(17, "ahead of the tide: who sits isn't brought in", tide.when(6, 1), 1);
        SkyChairs rain = walked(text.replace("#", ";sky 5 2"), 2, 1, 0);
        holds(17, "ahead of the rain of that tick", rain.when(6, 0), 5);
        holds(17, "ahead of the rain: who sits isn't brought in", rain.when(6, 1), 1);
        SkyChairs all = Check.told("place a 1 1 tide 5;place b 1 1 tide 5;chairs 20;carry 1;");
        all.put(0, 1);
        all.ticks(1);
        all.put(1, 1);
        all.ticks(1);
        all.put(1, 1);
        holds(17, "all that are out, of all places, whatever carry says", all.when(9, 1), 0);
        holds(17, "the first", all.when(9, 0), 2);
        holds(17, "none is brought in by asking", all.count(9), 17);
    }

    // ---- Promise 18

    private static void wayRefused() {
        noSuchRun(18, (x, n) -> x.way(n, 1), NONE);
        noSuchWhat(18, (x, what) -> x.way(0, what), NONE, -1, 2, Edge.MIN, Edge.MAX);
        Edge.leaves(18, "no places", Edge::fresh, x -> x.way(0, 0), NONE);
    }

    private static final String FIVE = "place a 1 0;place b 1 1;place c 1 2;place d 1 3;place e 1 4;chairs 5;price 2;law stay 1;"
            + "come 0 1;come 1 1;come 2 1;come 3 1;come 4 1;come 5 1;";

    private static SkyChairs five(String law) {
        SkyChairs x = Check.told(FIVE + law);
        for (int place = 0; place < 5; place++) {
            x.put(place, 1);
        }
        return x;
    }

    private static void wayEdges() {
        String last = "law sit 0-(far+tick-4)*(far+tick-4);";
        holds(18, "the last order of five", five(last).way(5, 1), 0x01234);
        holds(18, "its coin", five(last).way(5, 0), 10);
        holds(18, "a run as long as its first place", five(last).way(1, 1), 0x32104);
        holds(18, "0 ticks: the first by places", five(last).way(0, 1), 0x43210);
        holds(18, "0 ticks: no coin", five(last).way(0, 0), 0);
        String round = "law sit 0-(far-3)*(far-3)*(tick/5*5=tick);";
        holds(18, "again from the first behind the fifth", five(round).way(6, 0), 2 * 3);
        holds(18, "nobody sits: the first by places", Check.told("place a 1 1;place b 1 1;").way(9, 1), 0x10);
        holds(18, "nobody sits: no coin", Check.told("place a 1 1;place b 1 1;").way(9, 0), 0);
        SkyChairs one = walked("place a 1 1;chairs 1;come 0 1;", 1, 0, 0);
        holds(18, "one place: its route", one.way(1, 1), 0);
        holds(18, "one place: its coin", one.way(1, 0), 2);
        SkyChairs x = five(last);
        x.route(1, 4);
        x.ticks(1);
        holds(18, "from now on: the place of tick 1 first", x.way(1, 1), 0x42103);
        holds(18, "with the coin that there was", x.way(1, 0), 4);
        x.route(0, 0);
        holds(18, "whether there is a route or not", x.way(1, 1), 0x42103);
    }

    // ---- Promise 19

    private static void bestRefused() {
        noSuchRun(19, (x, n) -> x.best(n, 0), NO);
        noSuchWhat(19, (x, what) -> x.best(0, what), NO, -1, 2, Edge.MIN, Edge.MAX);
    }

    private static void bestEdges() {
        String text = "place a 1 1;chairs 3;come 0 3;come 9 2;price 99;";
        SkyChairs x = walked(text, 3, 1, 0);
        holds(19, "20 at most", x.best(1, 0), 20);
        holds(19, "20 at most: balance", x.best(1, 1), 60);
        holds(19, "of several the least: 0 with 0 ticks", x.best(0, 0), 0);
        holds(19, "0 with 0 ticks: balance", x.best(0, 1), 0);
        holds(19, "it is as told", x.run(1), 297);
        x.ticks(1);
        holds(19, "what there was is by the told price", x.best(9, 1), 297 + 40);
        holds(19, "nothing comes of it: the least", x.best(1, 0), 0);
        SkyChairs dodge = walked(text + "law dodge (price>0)*100;", 3, 1, 0);
        holds(19, "0 is the least", dodge.best(1, 0), 0);
        holds(19, "0 is the least: balance", dodge.best(1, 1), 0);
        SkyChairs twenty = walked(text + "law dodge (price>=20)*100;", 3, 1, 0);
        holds(19, "the law sees the price: 19", twenty.best(1, 0), 19);
        SkyChairs sit = walked(text + "place b 1 1;law sit (price>4)*(far-1);law stay price;", 3, 1, 0);
        holds(19, "no other price by asking", sit.law(1, 0), 99);
        holds(19, "without a text", Edge.fresh().best(96, 0), 0);
    }

    // ---- Promise 20

    private static SkyChairs unrouted() {
        SkyChairs x = Edge.busy();
        x.route(0, 0);
        return x;
    }

    private static void secondRefused() {
        noSuchRun(20, SkyChairs::second, NO);
        Edge.leaves(20, "no route", RunEdgeTest::unrouted, x -> x.second(1), NO);
        Edge.leaves(20, "no route, 0 ticks", RunEdgeTest::unrouted, x -> x.second(0), NO);
        Edge.leaves(20, "no places", Edge::fresh, x -> x.second(0), NO);
    }

    private static void secondEdges() {
        String text = "place a 3 1;place b 2 1;place c 1 1;chairs 3;price 10;wage 99;law stay 1;law sit 0-taken;come 0 3;come 1 3;come 2 3;come 3 3;";
        SkyChairs x = Check.told(text);
        x.put(0, 1);
        x.put(1, 1);
        x.put(2, 1);
        x.route(3, 0x210);
        holds(20, "0 ticks: nothing more, less wage", x.second(0), -99);
        holds(20, "its last place first", x.second(1), 10 - 99);
        holds(20, "both in the middle: nothing more on tick 1", x.second(2), 10 - 99);
        holds(20, "the other way on tick 2", x.second(3), 20 - 99);
        holds(20, "again from its last on tick 3", x.second(4), 30 - 99);
        x.ticks(1);
        holds(20, "on the first one's turn, whenever it is asked", x.second(1), -99);
        x.route(1, 0);
        holds(20, "a route of one: both at one place", x.second(1), -99);
        x.route(2, 0x10);
        holds(20, "a route of two: each at another place", x.second(1), 10 - 99);
        // By seed 0 the numbers are 0, 68, 88: who dodges the first boy is asked again by the second.
        SkyChairs y = Check.told("place a 5 1;chairs 2;price 10;come 0 1;law dodge 20;law stay 1;");
        y.put(0, 1);
        y.route(1, 0);
        holds(20, "behind the first boy on each tick", y.second(1), 10);
        SkyChairs z = Check.told("place a 5 1;place b 4 1;chairs 2;price 10;come 0 2;law dodge 20;law stay 1;");
        z.put(0, 1);
        z.put(1, 1);
        z.route(2, 0x10);
        // The first boy has number 0 at a, the second one 68 at b: were he ahead, b would dodge.
        holds(20, "the first boy's number ahead of his", z.second(1), 10);
    }

    // ---- Promise 21

    private static void gatherRefused() {
        noSuchWhat(21, SkyChairs::gather, NONE, -1, 3, Edge.MIN, Edge.MAX);
        for (int what = 0; what < 3; what++) {
            int asked = what;
            Edge.leaves(21, "no places", Edge::fresh, x -> x.gather(asked), NONE);
            Edge.leaves(21, "asking changes nothing", Edge::busy, x -> x.gather(asked), Edge.busy().gather(asked));
        }
    }

    private static SkyChairs tides(int... tides) {
        StringBuilder text = new StringBuilder("chairs 40;carry 40;");
        for (int i = 0; i < tides.length; i++) {
            text.append("place ").append((char) ('a' + i)).append(" 1 1").append(tides[i] < 0 ? "" : " tide " + tides[i]).append(";");
        }
        SkyChairs x = Check.told(text.toString());
        for (int i = 0; i < tides.length; i++) {
            x.put(i, i + 1);
        }
        return x;
    }

    private static void gatherEdges() {
        holds(21, "under water on the next tick: not saved", tides(0).gather(0), 0);
        holds(21, "under water a tick later: saved", tides(1).gather(0), 1);
        holds(21, "one each tick: both can't be first", tides(1, 1).gather(0), 2);
        holds(21, "the one with more first", tides(1, 1).gather(2), 0x01);
        holds(21, "one each tick: the second a tick later", tides(2, 1).gather(0), 3);
        holds(21, "the second a tick later: order", tides(2, 1).gather(2), 0x01);
        holds(21, "five, each in time", tides(5, 4, 3, 2, 1).gather(0), 15);
        holds(21, "five, each in time: order", tides(5, 4, 3, 2, 1).gather(2), 0x01234);
        holds(21, "five, the least is too late", tides(4, 4, 3, 2, 1).gather(0), 14);
        holds(21, "never under water", tides(-1, -1, -1).gather(0), 6);
        holds(21, "of several the first", tides(-1, -1, -1).gather(2), 0x210);
        SkyChairs x = tides(95, 95);
        x.ticks(94);
        holds(21, "from the next tick on", x.gather(0), 2);
        holds(21, "from the next tick on: order", x.gather(2), 0x01);
        x.ticks(1);
        holds(21, "under water on the last tick", x.gather(0), 0);
        x.ticks(1);
        holds(21, "lost behind the last", x.gather(0), 0);
        x.put(0, 1);
        holds(21, "under water behind the last, too", x.gather(0), 0);
        SkyChairs y = tides(-1, -1);
        y.ticks(96);
        holds(21, "no tick is next, never under water", y.gather(0), 3);
        SkyChairs z = Check.told("place a 1 7 tide 0;chairs 5;");
        z.put(0, 5);
        holds(21, "none saved: the walk is gone all the same", z.gather(1), 7);
        SkyChairs w = walked("place a 1 7;chairs 5;come 0 2;", 5, 0, 1);
        holds(21, "those out now alone", w.gather(0), 3);
    }

    private static void gatherWalks() {
        SkyChairs x = Check.told("place a 1 99;place b 1 0;place c 1 50;chairs 9;");
        holds(21, "none out: the least walk", x.gather(1), 99);
        holds(21, "none out: the order", x.gather(2), 0x021);
        SkyChairs y = Check.told("place a 1 10;place b 1 99 tide 1;chairs 9;");
        y.put(1, 1);
        holds(21, "what is saved ahead of the walk", y.gather(2), 0x01);
        holds(21, "without sign, not back to the stack", y.gather(1), 99 + 89);
        SkyChairs z = Check.told("place a 1 5;place b 1 3;place c 1 5;place d 1 3;place e 1 5;chairs 9;");
        holds(21, "of several walks the first order", z.gather(2), 0x42031);
        holds(21, "the walk of it", z.gather(1), 5);
        holds(21, "one place at 0", Check.told("place a 1 0;").gather(1), 0);
        holds(21, "one place: its order", Check.told("place a 1 0;").gather(2), 0);
    }

    // ---- Promise 29

    private static void triedRefused() {
        noSuchRun(29, (x, n) -> x.tried(0, 0, n), NO);
        noSuchRun(29, (x, n) -> x.tried(5, 2, n), NO);
        noSuchWhat(29, (x, what) -> x.tried(what, 0, 0), NO, -1, 6, Edge.MIN, Edge.MAX);
        for (int what : new int[] {0, 1, 2, 4}) {
            for (int i : new int[] {-1, 1, Edge.MIN, Edge.MAX}) {
                Edge.refused(29, "i 0 of " + what + ", not " + i, x -> x.tried(what, i, 0), NO);
            }
        }
        for (int i : new int[] {-1, 2, 5, Edge.MIN, Edge.MAX}) {
            Edge.refused(29, "3: no such place " + i, x -> x.tried(3, i, 0), NO);
        }
        for (int i : new int[] {-1, 3, 16, Edge.MIN, Edge.MAX}) {
            Edge.refused(29, "5: no such comes " + i, x -> x.tried(5, i, 0), NO);
        }
        Edge.leaves(29, "3: no places", Edge::fresh, x -> x.tried(3, 0, 0), NO);
        Edge.leaves(29, "5: no comes", Edge::fresh, x -> x.tried(5, 0, 0), NO);
        holds(29, "0 without a text", Edge.fresh().tried(0, 0, 96), 0);
        for (int what = 0; what < 6; what++) {
            int tried = what;
            holds(29, "0 ticks: the balance that there is", Edge.busy().tried(what, 0, 0), Edge.busy().sum(7));
            Edge.leaves(29, "trying changes nothing", Edge::busy, x -> x.tried(tried, 0, 40), Edge.busy().tried(tried, 0, 40));
        }
    }

    private static void triedRainAndWets() {
        String text = "place a 1 1 tide 9;chairs 2;canvas 4;wets 2;price 10;come 0 1;come 2 1;sky 1 2;sky 4 1;sky 6 2;law stay 2;";
        SkyChairs x = walked(text, 2, 1, 0);
        holds(29, "as it is: one pays, both rot", x.run(4), 10 - 8);
        holds(29, "0 no rain: both pay", x.tried(0, 0, 9), 20);
        holds(29, "0 no rain: the tide comes", x.tried(0, 0, 10), 20 - 8);
        holds(29, "4 no wets: it rains, nobody comes", x.tried(4, 0, 9), 10);
        holds(29, "4 no wets: the tide comes", x.tried(4, 0, 10), 10 - 8);
        x.ticks(2);
        holds(29, "4 no wets more on a wet one", x.tried(4, 0, 6), 10);
        SkyChairs cloud = walked("place a 1 1;chairs 1;price 10;sky 0 2;come 0 1;law dodge sun*100;", 1, 1, 0);
        holds(29, "0 it is cloud then, not sun", cloud.tried(0, 0, 1), 10);
        SkyChairs sun = walked("place a 1 1;chairs 1;price 10;come 0 1;law dodge sun*100;", 1, 1, 0);
        holds(29, "0 sun stays sun", sun.tried(0, 0, 1), 0);
    }

    private static void triedOthers() {
        String text = "place a 9 1;place b 5 1;chairs 4;price 10;come 0 1;come 0 2;come 1 1;band a 0 0;band b 1 1;law stay 1;"
                + "law dodge music*100;";
        SkyChairs x = Check.told(text);
        x.put(0, 2);
        x.put(1, 2);
        x.route(2, 0x00);
        holds(29, "as it is: the music is dodged", x.run(1), 0);
        holds(29, "1 no bands, neither of them", x.tried(1, 0, 1), 20);
        holds(29, "2 nobody dodges", x.tried(2, 0, 1), 20);
        holds(29, "as it is: one pays on tick 1", x.run(2), 10);
        holds(29, "3 the first place isn't sat at", x.tried(3, 0, 2), 0);
        holds(29, "3 the last place isn't sat at", x.tried(3, 1, 2), 10);
        holds(29, "5 the first comes", x.tried(5, 0, 2), 10);
        holds(29, "5 the last comes", x.tried(5, 2, 2), 0);
        x.route(1, 1);
        holds(29, "5 one of two comes of a tick: nobody at b", x.tried(5, 0, 1), 0);
        holds(29, "5 the larger one", x.tried(5, 1, 1), 0);
        holds(29, "1 with both comes: one at b", x.tried(1, 0, 1), 10);
        holds(29, "3 a is shut: two at b", x.tried(3, 0, 1), 20);
        SkyChairs y = walked("place a 9 1;chairs 2;price 10;come 0 1;law stay 5;", 2, 0, 1);
        y.route(1, 0);
        holds(29, "3 who sits there already stays", y.tried(3, 0, 1), 10);
        SkyChairs z = walked("place a 9 1;chairs 1;price 10;come 0 1;law dodge 0-5;", 1, 1, 0);
        holds(29, "2 where nobody dodges", z.tried(2, 0, 1), 10);
    }

    /** On a front where each trial has another balance, none of it is left for the run behind it. */
    private static void triedAndThenAsItIs() {
        SkyChairs x = Check.told("place a 9 1;place b 5 1;chairs 9;price 10;wets 1;canvas 3;come 0 2;come 2 2;sky 1 2;sky 2 0;band a 2 2;"
                + "law stay 1;law dodge music*100;law sit view-music*9;");
        x.put(0, 2);
        x.put(1, 1);
        x.ticks(1);
        x.put(1, 2);
        x.route(1, 0);
        for (int start = 0; start < 2; start++) {
            int run = x.run(3);
            for (int what = 0; what < 6; what++) {
                x.tried(what, what == 5 ? 1 : 0, 3);
                holds(15, "as it is, behind tried " + what, x.run(3), run);
                x.tried(what, what == 5 ? 1 : 0, 3);
                holds(18, "nor in a way, behind tried " + what, x.way(3, 0), start == 0 ? 0 : 10);
            }
            x.best(3, 0);
            holds(15, "as it is, behind best", x.run(3), run);
            x.when(3, 0);
            holds(15, "as it is, behind when", x.run(3), run);
            x.second(3);
            holds(15, "as it is, behind second", x.run(3), run);
            x.chance(9, 3, 0);
            holds(15, "as it is, behind chance", x.run(3), run);
            x.many(0, 3, 0);
            holds(15, "as it is, behind many", x.run(3), run);
            if (start == 0) {
                // Behind the rain there are chairs to sit on.
                x.ticks(1);
                x.put(0, 1);
                x.put(1, 1);
            }
        }
    }

    // ---- Promise 30

    private static void chanceRefused() {
        noSuchRun(30, (x, n) -> x.chance(5, n, 0), NONE);
        for (int seed : new int[] {-1, Edge.MIN}) {
            Edge.refused(30, "no such seed " + seed, x -> x.chance(seed, 0, 0), NONE);
        }
    }

    private static int payersBy(long seed, int dodge) {
        BigInteger state = BigInteger.valueOf(seed);
        int pay = 0;
        for (int k = 0; k < 10; k++) {
            state = next(state);
            BigInteger own = next(state.shiftRight(16));
            pay += own.shiftRight(16).intValue() % 100 < dodge ? 0 : 1;
        }
        return pay;
    }

    private static BigInteger next(BigInteger state) {
        return state.multiply(BigInteger.valueOf(1103515245)).add(BigInteger.valueOf(12345)).mod(BigInteger.ONE.shiftLeft(31));
    }

    private static void chanceEdges() {
        SkyChairs x = walked("place a 1 1 tide 5;chairs 1;price 7;canvas 9;come 0 1;law dodge 50;law stay 1;", 1, 1, 0);
        for (int seed : new int[] {0, 1, 99999, 1 << 30, Edge.MAX - 1, Edge.MAX}) {
            holds(30, "at least w, each by its own seed: " + seed, x.chance(seed, 1, 7), payersBy(seed, 50));
            holds(30, "one more than that: none", x.chance(seed, 1, 8), 0);
            holds(30, "at least 0: all", x.chance(seed, 1, 0), 10);
        }
        holds(30, "the least w", x.chance(0, 96, Edge.MIN), 10);
        holds(30, "the greatest w", x.chance(0, 96, Edge.MAX), 0);
        holds(30, "w below 0, the balance of those who dodge", x.chance(0, 96, -9), 10);
        holds(30, "w below 0, by one more", x.chance(0, 96, -8), payersBy(0, 50));
        holds(30, "0 ticks", x.chance(0, 0, 0), 10);
        holds(30, "0 ticks, at least 1", x.chance(0, 0, 1), 0);
        SkyChairs seeded = walked("place a 1 1;chairs 1;price 7;seed 99999;come 0 1;law dodge 50;", 1, 1, 0);
        holds(30, "the text's seed doesn't matter", seeded.chance(77, 1, 7), payersBy(77, 50));
        holds(30, "without a text", Edge.fresh().chance(Edge.MAX, 96, 0), 10);
    }
}
