import java.math.BigInteger;

/** Boundary cases of promises 6 to 14: chairs, places, skies, laws, what is carried, the route, ticks, sums. */
public final class FrontEdgeTest {
    private static final int NONE = Edge.NONE;
    private static final int STACKED = 0;
    private static final int OUT = 1;
    private static final int SAT = 2;
    private static final int LOST = 3;

    private FrontEdgeTest() {
    }

    public static void main(String[] args) {
        lookRefused();
        lookOfEachState();
        placeRefused();
        placeCounts();
        skyRefused();
        skiesFromTheirTicks();
        lawRefused();
        lawNames();
        lawValues();
        lawErrors();
        putRefused();
        putAsManyAs();
        bringRefused();
        bringAsManyAs();
        carryInAll();
        routeRefused();
        routeEdges();
        routeWrapsRound();
        ticksRefused();
        ticksEdges();
        tide();
        rain();
        sittersGo();
        sittersCome();
        whichPlace();
        howLong();
        boyGoesRound();
        dodge();
        numbers();
        fortyChairs();
        sumRefused();
        sums();
        Check.end();
    }

    private static void holds(int promise, String sentence, long got, long want) {
        Edge.holds(promise, sentence, got, want);
    }

    private static void holds(int promise, String sentence, boolean got, boolean want) {
        Edge.holds(promise, sentence, got, want);
    }

    private static void chair(int promise, String sentence, SkyChairs x, int chair, long... want) {
        for (int what = 0; what < want.length; what++) {
            holds(promise, sentence + ": chair " + chair + ", what " + what, Edge.looked(x, chair, what), want[what]);
        }
    }

    private static void sumsAre(int promise, String sentence, SkyChairs x, long... want) {
        for (int what = 0; what < want.length; what++) {
            holds(promise, sentence + ": sum " + what, x.sum(what), want[what]);
        }
    }

    private static SkyChairs after(String text, int chairs, int ticks) {
        SkyChairs x = Check.told(text);
        x.put(0, chairs);
        x.ticks(ticks);
        return x;
    }

    // ---- Promise 6

    private static void lookRefused() {
        for (int chair : new int[] {-1, 9, 40, Edge.MIN, Edge.MAX}) {
            Edge.refused(6, "no such chair " + chair, x -> Edge.looked(x, chair, 0), Edge.NO_CHAIR);
            Edge.refused(6, "no such chair " + chair + ", nor what", x -> Edge.looked(x, chair, 5), Edge.NO_CHAIR);
        }
        for (int what : new int[] {-1, 5, Edge.MIN, Edge.MAX}) {
            Edge.refused(6, "no such what " + what, x -> Edge.looked(x, 8, what), Edge.NO_WHAT);
        }
        holds(6, "no chairs", Edge.looked(Edge.fresh(), 0, 0), Edge.NO_CHAIR);
        SkyChairs x = Check.told("chairs 40;");
        holds(6, "the last of forty", Edge.looked(x, 39, 0), STACKED);
        holds(6, "behind the last of forty", Edge.looked(x, 40, 0), Edge.NO_CHAIR);
        holds(6, "the only chair", Edge.looked(Check.told("chairs 1;"), 0, 0), STACKED);
        holds(6, "behind the only chair", Edge.looked(Check.told("chairs 1;"), 1, 0), Edge.NO_CHAIR);
    }

    private static void lookOfEachState() {
        SkyChairs x = Check.told("place a 1 1 tide 3;chairs 3;come 0 2;come 1 1;law stay 2;law dodge 50;");
        chair(6, "stacked", x, 2, STACKED, NONE, 0, NONE, 0);
        x.put(0, 3);
        chair(6, "out", x, 2, OUT, 0, 0, NONE, 0);
        x.route(1, 0);
        x.ticks(1);
        // By seed 0 the first number is 0, the second 68.
        chair(6, "sat in, not paid", x, 0, SAT, 0, 0, 2, 0);
        chair(6, "sat in, paid", x, 1, SAT, 0, 0, 2, 1);
        x.ticks(2);
        chair(6, "who paid has gone", x, 1, OUT, 0, 0, NONE, 0);
        x.ticks(1);
        chair(6, "lost", x, 0, LOST, NONE, 0, NONE, 0);
        SkyChairs y = after("place a 1 1;chairs 1;come 95 1;law stay 95;", 1, 96);
        chair(6, "till a tick behind the last", y, 0, SAT, 0, 0, 190, 0);
    }

    // ---- Promise 7

    private static void placeRefused() {
        for (int place : new int[] {-1, 2, 5, Edge.MIN, Edge.MAX}) {
            Edge.refused(7, "no such place " + place, x -> x.place(place, 0), NONE);
        }
        for (int what : new int[] {-1, 5, Edge.MIN, Edge.MAX}) {
            Edge.refused(7, "no such what " + what, x -> x.place(1, what), NONE);
        }
        holds(7, "no places", Edge.fresh().place(0, 0), NONE);
        SkyChairs x = Check.told("place a 1 1;place b 1 1;place c 1 1;place d 1 1;place e 8 9;");
        holds(7, "the fifth place", x.place(4, 1), 9);
        holds(7, "behind the fifth", x.place(5, 1), NONE);
    }

    private static void placeCounts() {
        SkyChairs x = Check.told("place a 1 1;place b 2 1;chairs 40;carry 40;come 0 20;come 0 20;");
        holds(7, "none out", x.place(1, 3), 0);
        x.put(1, 40);
        holds(7, "all out", x.place(1, 3), 40);
        holds(7, "none out at the other", x.place(0, 3), 0);
        x.ticks(1);
        holds(7, "none out, for all are sat in", x.place(1, 3), 0);
        holds(7, "all sat in", x.place(1, 4), 40);
        holds(7, "none at the other", x.place(0, 4), 0);
        SkyChairs y = after("place a 1 1 tide 9;chairs 3;come 0 2;come 3 3;come 7 1;sky 5 2;sky 6 0;law stay 2;", 3, 0);
        int[] out = {3, 1, 1, 3, 0, 0, 3, 3, 2, 2, 0};
        int[] sat = {0, 2, 2, 0, 3, 3, 0, 0, 1, 1, 0};
        for (int tick = 0; tick < out.length; tick++) {
            holds(7, "out, as they come and go, by their time, the rain, the tide: " + tick, y.place(0, 3), out[tick]);
            holds(7, "sat in, as they come and go: " + tick, y.place(0, 4), sat[tick]);
            y.ticks(1);
        }
    }

    // ---- Promise 8

    private static void skyRefused() {
        for (int tick : new int[] {-1, 96, Edge.MIN, Edge.MAX}) {
            Edge.refused(8, "no such tick " + tick, x -> x.sky(tick), NONE);
        }
    }

    private static void skiesFromTheirTicks() {
        SkyChairs x = Check.told("sky 95 2;sky 10 1;sky 30 0;sky 20 2;");
        int[] ticks = {0, 9, 10, 19, 20, 29, 30, 94, 95};
        int[] skies = {0, 0, 1, 1, 2, 2, 0, 0, 2};
        for (int i = 0; i < ticks.length; i++) {
            holds(8, "from a tick till the next one: " + ticks[i], x.sky(ticks[i]), skies[i]);
        }
        holds(8, "from tick 0", Check.told("sky 0 2;").sky(0), 2);
        holds(8, "to the last", Check.told("sky 0 2;").sky(95), 2);
        holds(8, "on neighbours", Check.told("sky 1 2;sky 2 1;").sky(1), 2);
    }

    // ---- Promise 9

    private static SkyChairs lawful() {
        return Check.told("place a 30 7;place b 31 8;law sit view;law dodge far;chairs 4;");
    }

    private static void lawRefused() {
        for (int what : new int[] {-1, 3, Edge.MIN, Edge.MAX}) {
            Edge.refused(9, "no such what " + what, x -> x.law(what, 0), Edge.ERROR);
        }
        for (int place : new int[] {-1, 2, 5, Edge.MIN, Edge.MAX}) {
            Edge.refused(9, "no such place " + place, x -> x.law(0, place), Edge.ERROR);
        }
        Edge.leaves(9, "no such law", FrontEdgeTest::lawful, x -> x.law(1, 0), Edge.ERROR);
        Edge.leaves(9, "no tick is next", Edge::late, x -> x.law(0, 0), Edge.ERROR);
        Edge.leaves(9, "no places", Edge::fresh, x -> x.law(0, 0), Edge.ERROR);
        SkyChairs x = lawful();
        x.ticks(95);
        holds(9, "the last tick is next", x.law(0, 1), 31);
        holds(9, "the last law", x.law(2, 1), 8);
        x.ticks(1);
        holds(9, "no tick is next then", x.law(0, 1), Edge.ERROR);
    }

    private static void lawNames() {
        SkyChairs x = Check.told("place a 0 99;place b 99 0;chairs 4;price 99;sky 1 1;sky 2 2;sky 3 0;band b 1 2;band a 2 2;come 3 2;"
                + "law sit view*100+far;law stay sun*10+music;law dodge ((taken*100+free)*100+price)*100+tick;");
        holds(9, "view 0, far 99", x.law(0, 0), 99);
        holds(9, "view 99, far 0", x.law(0, 1), 9900);
        long[][] stays = {{10, 10}, {0, 1}, {1, 1}, {10, 10}};
        for (int tick = 0; tick < 4; tick++) {
            holds(9, "sun if it is, music from its tick to its tick, at its place: a on " + tick, x.law(1, 0), stays[tick][0]);
            holds(9, "sun if it is, music from its tick to its tick, at its place: b on " + tick, x.law(1, 1), stays[tick][1]);
            holds(9, "tick", x.law(2, 0), 9900 + tick);
            x.ticks(tick < 3 ? 1 : 0);
        }
        x.put(1, 3);
        holds(9, "free", x.law(2, 1), 39903);
        x.ticks(1);
        holds(9, "taken", x.law(2, 1), 2019904);
        holds(9, "not at the other place", x.law(2, 0), 9904);
    }

    private static long law(String formula) {
        return Check.told("place a 30 7;law sit " + formula + ";").law(0, 0);
    }

    private static void value(String sentence, String formula, long want) {
        holds(9, sentence + ": " + formula, law(formula), want);
    }

    private static void lawValues() {
        String[] cuts = {"7/2", "(0-7)/2", "7/(0-2)", "(0-7)/(0-2)", "1/2", "(0-1)/2"};
        long[] cut = {3, -3, -3, 3, 0, 0};
        for (int i = 0; i < cuts.length; i++) {
            value("/ is cut towards 0", cuts[i], cut[i]);
        }
        String[] signs = {"<", "<=", "=", "<>", ">=", ">"};
        int[][] want = {{1, 0, 0}, {1, 1, 0}, {0, 1, 0}, {1, 0, 1}, {0, 1, 1}, {0, 0, 1}};
        for (int i = 0; i < signs.length; i++) {
            for (int left = 1; left <= 3; left++) {
                value("comparisons are 1 or 0", left + signs[i] + "2", want[i][left - 1]);
                value("below 0, too", "(0-" + (4 - left) + ")" + signs[i] + "(0-2)", want[i][left - 1]);
            }
        }
        String[] truths = {"not 0", "not 5", "not (0-5)", "5 and 7", "(0-5) and 7", "5 and 0", "0 and 5", "0 and 0", "5 or 0", "0 or (0-5)",
            "5 or 7", "0 or 0", "not not 9"};
        int[] truth = {1, 0, 0, 1, 1, 0, 0, 0, 1, 1, 1, 0, 1};
        for (int i = 0; i < truths.length; i++) {
            value("what isn't 0 is as 1", truths[i], truth[i]);
        }
        value("* ahead of +", "1+2*3", 7);
        value("from the left: -", "9-3-2", 4);
        value("from the left: /", "99/9/2", 5);
        value("from the left: / and *", "7/2*2", 6);
        value("+ ahead of <", "1+1<1+2", 1);
        value("and ahead of or", "1 or 0 and 0", 1);
        value("not ahead of and", "not 1 and 0", 0);
    }

    private static void lawErrors() {
        String limit = "1000*1000*1000*1000";
        long most = 1000000000000L;
        value("/ by 0", "1/0", Edge.ERROR);
        value("0 / by 0", "0/0", Edge.ERROR);
        value("/ by what is 0", "1/(view-30)", Edge.ERROR);
        value("both sides are worked out: or", "1 or 1/0", Edge.ERROR);
        value("both sides are worked out: and", "0 and 1/0", Edge.ERROR);
        value("an error on the left", "1/0 or 1", Edge.ERROR);
        value("an error in not", "not (1/0)", Edge.ERROR);
        value("an error times 0", "0*(1/0)", Edge.ERROR);
        value("an error in a comparison", "1/0=1/0", Edge.ERROR);
        value("10 to the 12 by *", limit, most);
        value("10 to the 12 by +", "1000*1000*1000*999+1000*1000*1000", most);
        value("10 to the 12 by -", "1000*1000*1000*999-(0-1000*1000*1000)", most);
        value("10 to the 12 by /", limit + "/1", most);
        value("below 0 by 10 to the 12: -", "0-" + limit, -most);
        value("below 0 by 10 to the 12: *", limit + "*(0-1)", -most);
        value("below 0 by 10 to the 12: +", "(0-1000*1000*1000*999)+(0-1000*1000*1000)", -most);
        value("above by 1: +", limit + "+1", Edge.ERROR);
        value("above by 1: -", limit + "-(0-1)", Edge.ERROR);
        value("above by *", "1000*1000*1000*1001", Edge.ERROR);
        value("below by 1: -", "0-" + limit + "-1", Edge.ERROR);
        value("below by 1: +", "(0-" + limit + ")+(0-1)", Edge.ERROR);
        value("below by *", "1000*1000*1000*1001*(0-1)", Edge.ERROR);
        value("below by * of one below 0", "(0-1001)*1000*1000*1000", Edge.ERROR);
        value("a value on the way, too", limit + "+1-1", Edge.ERROR);
        value("far above what a long holds", "(" + limit + ")*(" + limit + ")", Edge.ERROR);
        value("a product that wraps round to 0", "(4096*4096*4096)*(4096*4096*4096)", Edge.ERROR);
        value("a product that wraps round, below 0", "(4096*4096*4096)*(0-4096*4096*4096)", Edge.ERROR);
        value("a product of both below 0", "(0-" + limit + ")*(0-1)", most);
        value("0 times the most", "0*(" + limit + ")", 0);
        value("the most times 0", limit + "*0", 0);
    }

    // ---- Promises 10, 11

    private static void putRefused() {
        for (int place : new int[] {-1, 2, 5, Edge.MIN, Edge.MAX}) {
            Edge.refused(10, "no such place " + place, x -> x.put(place, 1), NONE);
        }
        for (int n : new int[] {-1, 41, Edge.MIN, Edge.MAX}) {
            Edge.refused(10, "no such number " + n, x -> x.put(0, n), NONE);
        }
        Edge.refused(10, "a put of 0 puts none", x -> x.put(0, 0), 0);
        Edge.leaves(10, "no places", Edge::fresh, x -> x.put(0, 0), NONE);
    }

    private static void putAsManyAs() {
        SkyChairs x = Check.told("place a 1 1;chairs 40;carry 40;");
        holds(10, "forty at once", x.put(0, 40), 40);
        chair(10, "the last of them", x, 39, OUT, 0);
        Edge.leaves(10, "none is stacked", () -> after("place a 1 1;chairs 3;", 3, 0), y -> y.put(0, 40), 0);
        Edge.leaves(10, "there are no chairs", () -> Check.told("place a 1 1;"), y -> y.put(0, 40), 0);
        SkyChairs z = Check.told("place a 1 1;place b 1 1 tide 0;chairs 5;carry 40;");
        holds(10, "one of five", z.put(1, 1), 1);
        chair(10, "the least first", z, 0, OUT, 1);
        chair(10, "not the next", z, 1, STACKED, NONE);
        holds(10, "as many as are stacked", z.put(0, 5), 4);
        z.ticks(1);
        holds(10, "put out under water, too, and lost", z.sum(5), 1);
        holds(10, "under water", z.put(1, 1), 0);
        z.bring(0, 1);
        holds(10, "under water now", z.put(1, 1), 1);
        chair(10, "and out there", z, 1, OUT, 1);
    }

    private static void bringRefused() {
        for (int place : new int[] {-1, 2, 5, Edge.MIN, Edge.MAX}) {
            Edge.refused(11, "no such place " + place, x -> x.bring(place, 1), NONE);
        }
        for (int n : new int[] {-1, 41, Edge.MIN, Edge.MAX}) {
            Edge.refused(11, "no such number " + n, x -> x.bring(0, n), NONE);
        }
        Edge.refused(11, "a bring of 0 brings none", x -> x.bring(0, 0), 0);
        Edge.leaves(11, "no places", Edge::fresh, x -> x.bring(0, 0), NONE);
    }

    private static void bringAsManyAs() {
        Edge.leaves(11, "none is out", () -> Check.told("place a 1 1;chairs 3;"), x -> x.bring(0, 40), 0);
        Edge.leaves(11, "none is out there", () -> after("place a 1 1;place b 1 1;chairs 3;", 3, 0), x -> x.bring(1, 40), 0);
        Edge.leaves(11, "all are sat in", () -> after("place a 1 1;chairs 3;come 0 3;", 3, 1), x -> x.bring(0, 40), 0);
        Edge.leaves(11, "all are lost", () -> after("place a 1 1 tide 0;chairs 3;", 3, 1), x -> x.bring(0, 40), 0);
        SkyChairs x = after("place a 1 1;chairs 40;carry 40;", 40, 1);
        holds(11, "forty at once", x.bring(0, 40), 40);
        holds(11, "all stacked", x.count(9), 40);
        SkyChairs y = after("place a 1 1;chairs 6;come 0 2;", 5, 1);
        holds(11, "one of three that are out", y.bring(0, 1), 1);
        chair(11, "those that are sat in stay", y, 1, SAT, 0);
        chair(11, "the least that is out first", y, 2, STACKED, NONE);
        chair(11, "not the next", y, 3, OUT, 0);
        holds(11, "as many as are out there", y.bring(0, 40), 2);
    }

    private static void carryInAll() {
        SkyChairs x = Check.told("place a 1 1;place b 1 1;chairs 20;carry 1;");
        holds(10, "the least carry", x.put(0, 40), 1);
        Edge.leaves(10, "carry is used up by a put", () -> after("place a 1 1;chairs 9;carry 4;", 4, 0), y -> y.put(0, 1), 0);
        Edge.leaves(11, "carry is used up for a bring, too", () -> after("place a 1 1;chairs 9;carry 4;", 4, 0), y -> y.bring(0, 1), 0);
        SkyChairs z = after("place a 1 1;place b 1 1;chairs 20;carry 5;", 5, 1);
        holds(11, "anew behind a tick: a bring", z.bring(0, 3), 3);
        holds(10, "carry is for all between two ticks", z.put(1, 40), 2);
        holds(11, "none is left", z.bring(0, 1), 0);
        z.ticks(0);
        holds(10, "no tick, no carry", z.put(1, 1), 0);
        z.ticks(1);
        holds(10, "anew behind a tick: a put", z.put(1, 40), 5);
        z.ticks(94);
        holds(10, "behind the last tick once more", z.put(1, 40), 5);
        holds(11, "and no more", z.bring(1, 40), 0);
        SkyChairs w = Check.told("place a 1 1;chairs 20;carry 5;");
        w.put(0, 3);
        w.undo();
        holds(31, "what is undone was not carried", w.put(0, 40), 5);
    }

    // ---- Promise 12

    private static void routeRefused() {
        for (int n : new int[] {-1, 9, Edge.MIN, Edge.MAX}) {
            Edge.refused(12, "no such number " + n, x -> x.route(n, 0) ? 1 : 0, 0);
        }
        Edge.refused(12, "no such place: 2 of two", x -> x.route(1, 2) ? 1 : 0, 0);
        Edge.refused(12, "no such place: 15", x -> x.route(1, 15) ? 1 : 0, 0);
        Edge.refused(12, "no such place as the last of eight", x -> x.route(8, 0x20000000L) ? 1 : 0, 0);
        Edge.refused(12, "no such place as the highest bits of the last of eight", x -> x.route(8, 0x80000000L) ? 1 : 0, 0);
        Edge.refused(12, "no such place in the middle", x -> x.route(3, 0x020) ? 1 : 0, 0);
        Edge.refused(12, "all bits", x -> x.route(8, -1L) ? 1 : 0, 0);
        Edge.leaves(12, "no places", Edge::fresh, x -> x.route(1, 0) ? 1 : 0, 0);
        SkyChairs x = Check.told("place a 1 1;place b 1 1;place c 1 1;place d 1 1;place e 1 1;");
        holds(12, "the fifth place", x.route(1, 4), true);
        holds(12, "behind the fifth", x.route(1, 5), false);
    }

    private static void routeEdges() {
        SkyChairs x = Check.told("place a 1 1;");
        holds(12, "none with 0", x.route(0, 0), true);
        holds(20, "no route", x.second(0), Edge.NO);
        holds(12, "one", x.route(1, 0), true);
        holds(20, "a route", x.second(0), 0);
        holds(12, "none with 0, whatever the bits", x.route(0, -1L), true);
        holds(20, "no route again", x.second(0), Edge.NO);
        holds(12, "eight", x.route(8, 0), true);
        holds(20, "a route of eight", x.second(0), 0);
        holds(34, "each can be undone", x.count(8), 4);
        holds(12, "none without places", Edge.fresh().route(0, 0), true);
        x.ticks(96);
        holds(12, "behind the last tick", x.route(1, 0), true);
        SkyChairs y = payers();
        y.route(1, 0xFFFFFFF1L);
        y.ticks(1);
        holds(12, "bits above its places don't matter", payer(y), 1);
    }

    /** One comes to each of three places on each of ten ticks and stays for it alone. */
    private static SkyChairs payers() {
        StringBuilder text = new StringBuilder("place a 1 1;place b 1 1;place c 1 1;chairs 3;price 1;law stay 1;law sit 0-taken;");
        for (int tick = 0; tick < 10; tick++) {
            text.append("come ").append(tick).append(" 3;");
        }
        SkyChairs x = Check.told(text.toString());
        x.put(0, 1);
        x.put(1, 1);
        x.put(2, 1);
        return x;
    }

    /** Which chair has paid behind the tick. */
    private static int payer(SkyChairs x) {
        int payer = NONE;
        for (int chair = 0; chair < 3; chair++) {
            if (x.look(chair, 4) == 1) {
                payer = payer == NONE ? chair : -9;
            }
        }
        return payer;
    }

    private static void routeWrapsRound() {
        SkyChairs x = payers();
        x.route(3, 0x102);
        int[] turns = {2, 0, 1, 2, 0, 1, 2};
        for (int turn : turns) {
            x.ticks(1);
            holds(13, "the first one on the next tick, then on, and again from the first", payer(x), turn);
        }
        x.route(2, 0x12);
        for (int turn : new int[] {2, 1, 2}) {
            x.ticks(1);
            holds(13, "told anew: from its first on, on the tick that was next", payer(x), turn);
        }
        SkyChairs y = payers();
        y.route(8, 0x22222201L);
        for (int turn : new int[] {1, 0, 2, 2, 2, 2, 2, 2, 1, 0}) {
            y.ticks(1);
            holds(13, "a route of eight wraps round behind its eighth", payer(y), turn);
        }
        SkyChairs z = payers();
        z.route(1, 1);
        z.ticks(5);
        holds(13, "a route of one", payer(z), 1);
        z.route(0, 0);
        z.ticks(1);
        holds(13, "without a route nobody is asked", payer(z), NONE);
    }

    // ---- Promise 13

    private static void ticksRefused() {
        for (int n : new int[] {-1, 97, Edge.MIN, Edge.MAX}) {
            Edge.refused(13, "no such number " + n, x -> x.ticks(n), NONE);
        }
        Edge.leaves(13, "behind 95, from 6", Edge::busy, x -> x.ticks(91), NONE);
        Edge.leaves(13, "behind 95, from 96", Edge::late, x -> x.ticks(1), NONE);
        Edge.leaves(13, "behind 95, from 6, by 96", Edge::busy, x -> x.ticks(96), NONE);
        Edge.refused(13, "no tick goes by with 0", x -> x.ticks(0) - x.count(5), 0);
    }

    private static void ticksEdges() {
        holds(13, "all at once: none is next", Edge.early().ticks(96), 96);
        holds(13, "up to the last", Edge.busy().ticks(90), 96);
        holds(13, "the last is next", Edge.busy().ticks(89), 95);
        holds(13, "0 behind the last", Edge.late().ticks(0), 96);
        holds(13, "without a text", Edge.fresh().ticks(96), 96);
        Edge.same(13, "by one call or by many", () -> {
            SkyChairs x = Edge.busy();
            x.ticks(20);
            return x;
        }, () -> {
            SkyChairs x = Edge.busy();
            for (int i = 0; i < 20; i++) {
                x.ticks(1);
            }
            return x;
        });
        SkyChairs x = Check.told("place a 1 1;chairs 1;come 95 1;");
        x.put(0, 1);
        x.ticks(95);
        holds(13, "not yet on tick 94", x.place(0, 4), 0);
        x.ticks(1);
        holds(13, "on tick 95 as well", x.place(0, 4), 1);
    }

    private static void tide() {
        SkyChairs x = after("place a 1 1 tide 0;place b 1 1;chairs 2;", 1, 0);
        holds(13, "not lost ahead of the tick", x.sum(5), 0);
        x.put(1, 1);
        x.ticks(1);
        chair(13, "lost on tick 0", x, 0, LOST, NONE);
        chair(13, "not at the other place", x, 1, OUT, 1);
        SkyChairs y = after("place a 1 1 tide 95;chairs 2;", 1, 95);
        holds(13, "not lost on tick 94", y.sum(5), 0);
        y.ticks(1);
        holds(13, "lost on tick 95", y.sum(5), 1);
        chair(13, "the stacked one isn't", y, 1, STACKED, NONE);
        SkyChairs z = after("place a 1 1 tide 5;chairs 3;come 3 2;", 2, 0);
        z.route(1, 0);
        z.ticks(4);
        z.route(0, 0);
        z.put(0, 1);
        z.ticks(1);
        sumsAre(13, "ahead of the tide", z, 4, 2, 0, 0, 0, 0, 0, 4);
        z.ticks(1);
        sumsAre(13, "those who paid aren't missed", z, 4, 2, 0, 0, 0, 3, 0, -11);
        SkyChairs w = after("place a 1 1 tide 5;chairs 3;come 4 2;come 5 1;", 3, 6);
        sumsAre(13, "sitters who go by the tide not having paid are missed", w, 0, 0, 0, 2, 1, 3, 0, -15);
        SkyChairs v = after("place a 1 1 tide 5;chairs 3;sky 5 2;wets 1;", 3, 6);
        sumsAre(13, "the tide ahead of the rain: none is rotten", v, 0, 0, 0, 0, 0, 3, 0, -15);
        SkyChairs u = Check.told("place a 1 1 tide 5;chairs 3;");
        u.ticks(8);
        u.put(0, 1);
        u.ticks(1);
        holds(13, "put under water: lost on the next tick", u.sum(5), 1);
        u.ticks(1);
        holds(13, "lost once", u.sum(5), 1);
    }

    private static void rain() {
        for (int wets : new int[] {1, 9}) {
            String text = "place a 1 1;chairs 3;canvas 7;wets " + wets + ";sky 10 2;";
            SkyChairs x = after(text, 2, 10 + wets - 1);
            holds(13, "one wet less than wets " + wets + ": not lost", x.sum(5), 0);
            holds(6, "wets", x.look(1, 2), wets - 1);
            chair(13, "out still", x, 1, OUT, 0);
            x.ticks(1);
            sumsAre(13, "as many as wets " + wets + ": rotten, lost", x, 0, 0, 0, 0, 0, 2, 2, -14);
            chair(13, "rotten", x, 1, LOST, NONE, wets, NONE, 0);
            chair(13, "the stacked one isn't wet", x, 2, STACKED, NONE, 0, NONE, 0);
        }
        SkyChairs y = after("place a 1 1;chairs 2;come 0 1;come 1 1;come 2 3;sky 1 2;sky 2 1;", 2, 1);
        chair(13, "sits ahead of the rain", y, 0, SAT, 0, 0, 8, 0);
        y.ticks(1);
        chair(13, "goes by the rain, one wet more", y, 0, OUT, 0, 1, NONE, 0);
        sumsAre(13, "missed; nobody comes while it rains, nor is on the wall", y, 0, 0, 0, 1, 0, 0, 0, 0);
        y.ticks(1);
        sumsAre(13, "they come under clouds", y, 0, 0, 0, 1, 1, 0, 0, 0);
        SkyChairs z = after("place a 1 1;chairs 1;come 0 1;sky 1 2;", 1, 0);
        z.route(1, 0);
        z.ticks(2);
        sumsAre(13, "who paid and goes by the rain isn't missed", z, 2, 1, 0, 0, 0, 0, 0, 2);
        SkyChairs w = after("place a 1 1;chairs 1;sky 0 2;sky 1 0;sky 2 2;wets 2;", 1, 1);
        w.bring(0, 1);
        chair(13, "brought in it keeps its wet", w, 0, STACKED, NONE, 1);
        w.put(0, 1);
        w.ticks(2);
        holds(13, "and is rotten by the next", w.sum(6), 1);
    }

    private static void sittersGo() {
        SkyChairs x = after("place a 1 1;chairs 1;come 0 1;come 3 1;law stay 3;", 1, 3);
        chair(13, "ahead of its tick", x, 0, SAT, 0, 0, 3, 0);
        x.ticks(1);
        chair(13, "on its tick one goes, and the next may come", x, 0, SAT, 0, 0, 6, 0);
        holds(13, "missed", x.sum(3), 1);
        holds(13, "nobody on the wall", x.sum(4), 0);
        SkyChairs y = after("place a 1 1;chairs 1;come 0 1;law stay 3;", 1, 0);
        y.route(1, 0);
        y.ticks(4);
        holds(13, "who paid isn't missed", y.sum(3), 0);
        SkyChairs z = after("place a 1 1;chairs 1;come 0 1;law stay 1;", 1, 1);
        z.route(1, 0);
        z.ticks(1);
        holds(13, "gone ahead of the boy's round", z.sum(1), 0);
        SkyChairs w = after("place a 1 1;chairs 1;come 0 1;law stay 95;", 1, 95);
        chair(13, "till tick 95", w, 0, SAT, 0, 0, 95, 0);
        w.ticks(1);
        chair(13, "goes on tick 95", w, 0, OUT, 0, 0, NONE, 0);
    }

    private static void sittersCome() {
        SkyChairs x = Check.told("place a 1 1;chairs 2;come 0 3;come 5 1;");
        x.ticks(1);
        holds(13, "no chair is out: all on the wall", x.sum(4), 3);
        x.put(0, 2);
        x.ticks(5);
        chair(13, "the least chair", x, 0, SAT, 0, 0, 13, 0);
        chair(13, "one came", x, 1, OUT, 0, 0, NONE, 0);
        SkyChairs y = after("place a 1 1;chairs 2;come 0 1;come 0 2;", 2, 1);
        holds(13, "both comes of one tick: one is too many", y.sum(4), 1);
        holds(13, "two sit", y.place(0, 4), 2);
        SkyChairs z = Check.told("come 0 20;come 95 20;");
        z.ticks(96);
        holds(13, "without places all are on the wall", z.sum(4), 40);
        SkyChairs w = after("place a 1 1;chairs 40;carry 40;come 0 20;come 0 20;come 0 1;", 40, 1);
        holds(13, "forty sit", w.place(0, 4), 40);
        holds(13, "the forty-first is on the wall", w.sum(4), 1);
    }

    private static int satAt(String text) {
        SkyChairs x = Check.told(text + "chairs 6;come 0 1;");
        for (int place = 0; place < x.count(0); place++) {
            x.put(place, 1);
        }
        x.ticks(1);
        for (int place = 0; place < x.count(0); place++) {
            if (x.place(place, 4) == 1) {
                return place;
            }
        }
        return NONE;
    }

    private static void whichPlace() {
        holds(13, "the greatest view without a law", satAt("place a 1 1;place b 3 1;place c 2 1;"), 1);
        holds(13, "the first of several", satAt("place a 1 1;place b 3 1;place c 3 1;"), 1);
        holds(13, "all alike: the first", satAt("place a 0 1;place b 0 1;"), 0);
        holds(13, "the greatest by the law", satAt("place a 1 1;place b 3 9;law sit view-far;"), 0);
        holds(13, "below 0, too", satAt("place a 1 5;place b 1 4;place c 1 6;law sit 0-far;"), 1);
        holds(13, "the first of several by the law", satAt("place a 1 5;place b 9 4;place c 3 4;law sit 0-far;"), 1);
        holds(13, "0 with an error: above -1", satAt("place a 1 0;place b 1 1;law sit 1/(far-1);"), 1);
        holds(13, "0 with an error: below 1", satAt("place a 1 1;place b 1 2;law sit 1/(far-1);"), 1);
        holds(13, "0 with an error: as 0", satAt("place a 1 1;place b 1 9;law sit 1/(far-1);"), 0);
        holds(13, "the most of all values", satAt("place a 1 9;place b 1 10;law sit 1000*1000*1000*100*far;"), 1);
        holds(13, "above the most is an error", satAt("place a 1 11;place b 1 1;law sit 1000*1000*1000*100*far;"), 1);
        SkyChairs x = Check.told("place a 1 1;place b 9 1;chairs 3;come 0 2;");
        x.put(0, 1);
        x.ticks(1);
        holds(13, "only where a chair is out", x.place(0, 4), 1);
        holds(13, "the other is on the wall", x.sum(4), 1);
        SkyChairs y = Check.told("place a 5 1;place b 4 1;chairs 6;come 0 3;law sit view-taken*2;");
        y.put(0, 3);
        y.put(1, 3);
        y.ticks(1);
        holds(13, "one by one: the law sees who sat ahead", y.place(0, 4), 2);
        holds(13, "one of them at the other", y.place(1, 4), 1);
    }

    private static long till(String law) {
        SkyChairs x = Check.told("place a 7 3;chairs 3;come 2 2;" + law);
        x.put(0, 3);
        x.ticks(3);
        return x.look(1, 3) * 1000L + x.look(0, 3);
    }

    private static void howLong() {
        holds(13, "8 without a law", till(""), 10010);
        holds(13, "8 with an error", till("law stay 1/0;"), 10010);
        holds(13, "1 at least: 1", till("law stay 1;"), 3003);
        holds(13, "1 at least: 0", till("law stay 0;"), 3003);
        holds(13, "1 at least: below 0", till("law stay 0-1;"), 3003);
        holds(13, "1 at least: the least value", till("law stay 0-1000*1000*1000*1000;"), 3003);
        holds(13, "2", till("law stay 2;"), 4004);
        holds(13, "94", till("law stay 94;"), 96096);
        holds(13, "95 at most: 95", till("law stay 95;"), 97097);
        holds(13, "95 at most: 96", till("law stay 96;"), 97097);
        holds(13, "95 at most: what an int doesn't hold", till("law stay 4096*4096*256+1;"), 97097);
        holds(13, "as the place was ahead of that: free", till("law stay free*10;"), 22032);
        holds(13, "as the place was ahead of that: taken", till("law stay taken*10+4;"), 16006);
    }

    private static void boyGoesRound() {
        SkyChairs x = Check.told("place a 2 1;place b 1 1;chairs 3;come 0 3;price 99;law stay 50;");
        x.put(0, 2);
        x.put(1, 1);
        x.route(2, 0x10);
        x.ticks(1);
        sumsAre(13, "on the tick on which they come", x, 198, 2, 0, 0);
        holds(6, "not at the other place", x.look(2, 4), 0);
        x.ticks(1);
        sumsAre(13, "at the next place", x, 297, 3, 0, 0);
        x.ticks(8);
        sumsAre(13, "who has paid isn't asked again", x, 297, 3, 0, 0);
        SkyChairs y = after("place a 2 1;chairs 3;come 0 3;price 0;", 3, 0);
        y.route(1, 0);
        y.ticks(1);
        sumsAre(13, "a price of 0 is paid, too", y, 0, 3, 0, 0);
    }

    private static SkyChairs asked(String law) {
        SkyChairs x = Check.told("place a 7 3;chairs 40;carry 40;come 0 20;come 0 20;" + law);
        x.put(0, 40);
        x.route(1, 0);
        x.ticks(1);
        return x;
    }

    private static void dodge() {
        holds(13, "0 without a law", asked("").sum(2), 0);
        holds(13, "0 with an error", asked("law dodge 100/0;").sum(2), 0);
        holds(13, "0: nobody", asked("law dodge 0;").sum(2), 0);
        holds(13, "below 0: nobody", asked("law dodge 0-100;").sum(2), 0);
        holds(13, "100: all", asked("law dodge 100;").sum(2), 40);
        holds(13, "above 100: all", asked("law dodge 101;").sum(2), 40);
        holds(13, "far above 100: all", asked("law dodge 4096*4096*256;").sum(2), 40);
        holds(13, "below it, not at it: 0 of seed 0", asked("law dodge 1;").look(0, 4), 0);
        holds(13, "not below 68: pays", asked("law dodge 68;").look(1, 4), 1);
        holds(13, "below 69: dodges", asked("law dodge 69;").look(1, 4), 0);
        SkyChairs x = Check.told("place a 7 3;chairs 1;come 0 1;law dodge 100;law stay 5;");
        x.put(0, 1);
        x.route(1, 0);
        x.ticks(3);
        sumsAre(13, "dodges once more each time", x, 0, 0, 3, 0);
        x.ticks(3);
        sumsAre(13, "and is missed once", x, 0, 0, 5, 1);
    }

    /** Numbers as the document says them, without bounds of a machine. */
    private static boolean[] payersBy(int seed, int n, int dodge) {
        BigInteger state = BigInteger.valueOf(seed);
        boolean[] pays = new boolean[n];
        for (int i = 0; i < n; i++) {
            state = state.multiply(BigInteger.valueOf(1103515245)).add(BigInteger.valueOf(12345));
            state = state.mod(BigInteger.ONE.shiftLeft(31));
            pays[i] = state.divide(BigInteger.valueOf(65536)).mod(BigInteger.valueOf(100)).intValue() >= dodge;
        }
        return pays;
    }

    private static void numbers() {
        for (int seed : new int[] {0, 1, 2, 4096, 32768, 65535, 65536, 99998, 99999}) {
            boolean[] pays = payersBy(seed, 40, 50);
            SkyChairs x = asked("law dodge 50;seed " + seed + ";");
            for (int chair = 0; chair < 40; chair++) {
                holds(13, "numbers by seed " + seed + ", by chairs", x.look(chair, 4), pays[chair] ? 1 : 0);
            }
        }
        // Each of the second tick is asked behind those of the first: the numbers go on.
        SkyChairs y = Check.told("place a 7 3;chairs 20;carry 40;come 0 20;law dodge 50;law stay 90;seed 99999;");
        y.put(0, 20);
        y.route(1, 0);
        y.ticks(1);
        boolean[] first = payersBy(99999, 40, 50);
        y.ticks(1);
        int next = 20;
        for (int chair = 0; chair < 20; chair++) {
            boolean pays = first[chair] || first[next++];
            holds(13, "the numbers go on with those who dodged", y.look(chair, 4), pays ? 1 : 0);
        }
        SkyChairs z = Check.told("place a 7 3;place b 6 3;chairs 30;carry 40;come 0 20;come 0 5;law dodge 50*(view=6);law stay 90;");
        z.put(0, 20);
        z.put(1, 5);
        z.route(2, 0x10);
        z.ticks(2);
        boolean[] all = payersBy(0, 25, 50);
        for (int chair = 20; chair < 25; chair++) {
            holds(13, "a number each, where nobody can dodge, too", z.look(chair, 4), all[chair] ? 1 : 0);
        }
    }

    /** As many chairs as there may be, through all that happens to them. */
    private static void fortyChairs() {
        SkyChairs x = Check.told("place a 1 1;place b 1 1 tide 6;chairs 40;carry 40;wets 1;come 0 20;come 0 18;sky 3 2;law stay 2;");
        holds(10, "39 of 40", x.put(0, 39), 39);
        holds(11, "no more than carry", x.bring(0, 40), 1);
        holds(31, "one out again", x.undo(), 1);
        x.route(1, 0);
        x.ticks(1);
        holds(13, "38 pay", x.sum(1), 38);
        holds(10, "the last one", x.put(1, 40), 1);
        holds(11, "the one that is out", x.bring(0, 40), 1);
        x.ticks(2);
        holds(13, "all have gone", x.place(0, 3), 38);
        holds(11, "all that are out", x.bring(0, 40), 38);
        holds(10, "all but one", x.put(0, 40), 2);
        x.undo();
        x.undo();
        x.ticks(1);
        sumsAre(13, "rotten by the rain", x, 76, 38, 0, 0, 0, 39, 39, 76 - 195);
        holds(10, "the only one that is stacked", x.put(1, 40), 1);
        x.undo();
        holds(17, "none is out to be brought in", x.when(1, 1), 76 - 195);
        SkyChairs y = after("place a 1 1 tide 5;chairs 40;carry 40;", 40, 1);
        holds(17, "forty brought in", y.when(9, 1), 0);
        y.ticks(5);
        holds(13, "forty lost by the tide", y.sum(5), 40);
        holds(11, "none to bring", y.bring(0, 40), 0);
        holds(10, "none to put", y.put(0, 40), 0);
    }

    // ---- Promise 14

    private static void sumRefused() {
        for (int what : new int[] {-1, 8, Edge.MIN, Edge.MAX}) {
            Edge.refused(14, "no such what " + what, x -> x.sum(what), NONE);
        }
    }

    private static void sums() {
        SkyChairs x = Check.told("place a 9 1;place b 5 1 tide 3;chairs 9;canvas 99;price 99;wets 2;come 0 3;come 1 9;sky 4 2;law stay 2;"
                + "law dodge (view=5)*100;");
        x.put(0, 2);
        x.put(1, 1);
        x.route(2, 0x10);
        sumsAre(14, "nothing so far", x, 0, 0, 0, 0, 0, 0, 0, 0);
        x.ticks(6);
        // Two pay at a; one dodges at b and is missed; nine on the wall; b's chair by the tide, a's are rotten.
        sumsAre(14, "what there was so far", x, 198, 2, 1, 1, 9, 3, 2, 198 - 297);
        SkyChairs y = after("place a 1 1 tide 0;chairs 40;carry 40;canvas 99;", 40, 1);
        holds(14, "the least balance of all", y.sum(7), -3960);
        SkyChairs z = after("place a 1 1 tide 0;chairs 40;carry 40;canvas 0;", 40, 1);
        holds(14, "canvas 0: nothing for the lost", z.sum(7), 0);
    }
}
