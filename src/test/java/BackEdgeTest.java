/** Boundary cases of promises 31 to 34: what is undone, images, counts; and as many calls as an object is used for. */
public final class BackEdgeTest {
    private static final int NONE = Edge.NONE;

    private BackEdgeTest() {
    }

    public static void main(String[] args) {
        undoRefused();
        undoneIsAsAhead();
        whatCanBeUndone();
        latestFirst();
        twentyAtMost();
        twentyOfEachKind();
        noTickSince();
        backRefused();
        backIsAsThen();
        imageOfWhat();
        imageInPlaceOfOne();
        nothingToUndoThen();
        bookStays();
        countRefused();
        countsEmpty();
        countsFull();
        asManyCallsAsThereMayBe();
        Check.end();
    }

    private static void holds(int promise, String sentence, long got, long want) {
        Edge.holds(promise, sentence, got, want);
    }

    private static Edge.Made with(Edge.Made made, Edge.Call... calls) {
        return () -> {
            SkyChairs x = made.make();
            for (Edge.Call call : calls) {
                call.on(x);
            }
            return x;
        };
    }

    private static long route(SkyChairs x, int n, long places) {
        return x.route(n, places) ? 1 : 0;
    }

    private static void undoAll(SkyChairs x) {
        for (int i = 0; i < 21; i++) {
            x.undo();
        }
    }

    // ---- Promise 31

    private static void undoRefused() {
        Edge.leaves(31, "none: a new object", Edge::fresh, SkyChairs::undo, NONE);
        Edge.leaves(31, "none: a tick went by", with(Edge::busy, x -> x.ticks(1)), SkyChairs::undo, NONE);
        Edge.leaves(31, "none: a text was told", () -> Check.told("place a 1 1;chairs 3;"), SkyChairs::undo, NONE);
        Edge.leaves(31, "none: back to an image", with(Edge::busy, SkyChairs::back), SkyChairs::undo, NONE);
        Edge.Made undone = () -> {
            SkyChairs x = Edge.busy();
            undoAll(x);
            return x;
        };
        Edge.leaves(31, "none: all are undone", undone, SkyChairs::undo, NONE);
        holds(31, "the last of them: none left", with(undone, x -> x.put(0, 1)).make().undo(), 0);
    }

    private static void undoneIsAsAhead() {
        Edge.Made[] fronts = {Edge::early, Edge::busy, Edge::late};
        for (Edge.Made made : fronts) {
            int left = made.make().count(8);
            Edge.leaves(31, "a put is undone", made, x -> x.put(0, 1) == 1 ? x.undo() : 99, left);
            Edge.leaves(31, "a put of as many as can be is undone", made, x -> x.put(1, 40) > 0 ? x.undo() : 99, left);
            Edge.leaves(31, "a route is undone", made, x -> route(x, 2, 0x01) == 1 ? x.undo() : 99, left);
            Edge.leaves(31, "no route is undone", made, x -> route(x, 0, 0) == 1 ? x.undo() : 99, left);
            Edge.leaves(31, "three are undone, the latest first", made,
                    x -> x.put(0, 1) + route(x, 1, 1) + route(x, 8, 0) + 0 * (x.undo() + x.undo() + x.undo()), 3);
        }
        Edge.leaves(31, "a bring is undone", Edge::early, x -> x.bring(1, 1) == 1 ? x.undo() : 99, 4);
        Edge.leaves(31, "a bring is undone: those ones are out again", with(Edge::early, x -> x.ticks(1), x -> x.put(1, 3)),
                x -> x.bring(1, 2) == 2 ? x.undo() : 99, 1);
        Edge.leaves(31, "a bring of what was put, both undone", with(Edge::early, SkyChairs::undo),
                x -> x.put(1, 1) == 1 && x.bring(1, 1) == 1 ? 10 * x.undo() + x.undo() : 99, 43);
    }

    private static void whatCanBeUndone() {
        SkyChairs x = Check.told("place a 1 1;place b 1 1;chairs 2;carry 3;");
        x.put(0, 0);
        x.put(0, -1);
        x.put(0, 41);
        x.put(2, 1);
        holds(31, "a put of none or a refused one isn't undone", x.count(8), 0);
        x.bring(0, 0);
        x.bring(0, 1);
        x.bring(0, -1);
        x.bring(9, 1);
        holds(31, "a bring of none or a refused one isn't undone", x.count(8), 0);
        x.route(9, 0);
        x.route(1, 2);
        holds(31, "a refused route isn't undone", x.count(8), 0);
        x.route(0, 0);
        holds(31, "a route of none is", x.count(8), 1);
        x.put(0, 1);
        holds(31, "a put of one is", x.count(8), 2);
        x.bring(0, 1);
        holds(31, "a bring of one is", x.count(8), 3);
        x.put(0, 40);
        holds(31, "a put of fewer than asked for is", x.count(8), 4);
        x.put(0, 1);
        x.bring(0, 1);
        holds(31, "none by carry isn't", x.count(8), 4);
        x.keep();
        x.run(3);
        x.day(0, true);
        x.known(0);
        holds(31, "nothing else is", x.count(8), 4);
    }

    private static void latestFirst() {
        SkyChairs x = Check.told("place a 1 1;place b 1 1;chairs 5;");
        x.put(0, 2);
        x.bring(0, 1);
        x.put(1, 2);
        holds(31, "chair 0 is out again at another place", x.look(0, 1), 1);
        holds(31, "the second put", x.undo(), 2);
        holds(6, "chair 0 is stacked", x.look(0, 0), 0);
        holds(6, "chair 1 is where it was", x.look(1, 1), 0);
        holds(31, "the bring", x.undo(), 1);
        holds(6, "chair 0 is out where it was", x.look(0, 1), 0);
        holds(31, "the first put", x.undo(), 0);
        holds(34, "all stacked", x.count(9), 5);
        holds(31, "none", x.undo(), NONE);
        // A route that is undone goes on with its own turn, not from its first place.
        SkyChairs y = Check.told("place a 2 1;place b 1 1;chairs 2;come 2 1;law stay 1;price 7;");
        y.put(0, 1);
        y.ticks(1);
        y.route(2, 0x01);
        y.ticks(1);
        y.route(2, 0x01);
        holds(15, "told anew: b on tick 2", y.run(1), 0);
        y.undo();
        holds(31, "undone: a on tick 2", y.run(1), 7);
    }

    private static void twentyAtMost() {
        for (int more = 0; more <= 5; more++) {
            SkyChairs x = Check.told("place a 1 1;chairs 40;carry 40;");
            for (int i = 0; i < 20 + more; i++) {
                x.put(0, 1);
            }
            holds(34, "20 at most, of " + (20 + more), x.count(8), 20);
            for (int i = 19; i >= 0; i--) {
                holds(31, "how many are left, of " + (20 + more), x.undo(), i);
            }
            holds(31, "no more of " + (20 + more), x.undo(), NONE);
            holds(31, "what can't be undone stays", x.place(0, 3), more);
        }
        SkyChairs y = Check.told("place a 1 1;chairs 40;carry 40;");
        for (int i = 0; i < 19; i++) {
            y.put(0, 1);
        }
        holds(34, "nineteen", y.count(8), 19);
        y.route(1, 0);
        y.bring(0, 1);
        holds(34, "twenty of twenty-one", y.count(8), 20);
        y.undo();
        y.put(0, 1);
        holds(34, "one undone, one more", y.count(8), 20);
        undoAll(y);
        holds(31, "the first put was one too many", y.place(0, 3), 1);
        holds(31, "the route was not", y.second(0), Edge.NO);
    }

    /** A front on whose last tick a route of three goes on; then so many deeds of all kinds. */
    private static SkyChairs done(int deeds) {
        SkyChairs x = Check.told("place a 3 1;place b 2 1;place c 1 1;chairs 40;carry 40;law stay 1;law sit 0-taken;come 4 6;come 5 6;come 6 6;");
        x.put(0, 4);
        x.put(1, 4);
        x.put(2, 4);
        x.ticks(2);
        x.route(3, 0x012);
        x.ticks(2);
        for (int i = 0; i < deeds; i++) {
            if (i % 3 == 2) {
                x.route(1 + i % 4, 0x2101021L >> 4 * (i % 4));
            } else if (i % 3 == 1) {
                x.bring(i % 7 % 3, 1);
            } else {
                x.put(i % 5 % 3, 2 - i % 2);
            }
        }
        return x;
    }

    private static String front(SkyChairs x) {
        StringBuilder front = new StringBuilder();
        for (int chair = 0; chair < 40; chair++) {
            front.append(x.look(chair, 1)).append(' ');
        }
        for (int n = 0; n < 6; n++) {
            front.append(x.run(n)).append(' ').append(x.second(n)).append(' ');
        }
        return front.toString();
    }

    private static void twentyOfEachKind() {
        for (int deeds = 18; deeds <= 30; deeds++) {
            SkyChairs x = done(deeds);
            int left = Math.min(20, deeds);
            holds(34, "20 at most, of all kinds", x.count(8), left);
            for (int i = 1; i <= left; i++) {
                holds(31, "undone of " + deeds, x.undo(), left - i);
                Edge.holds(31, i + " of " + deeds + " are undone: as ahead of them", front(x).equals(front(done(deeds - i))), true);
            }
            holds(31, "no more of " + deeds, x.undo(), NONE);
            int carried = 40 - done(deeds - left).put(0, 40);
            holds(31, "what was carried is given back", 40 - x.put(0, 40), carried);
        }
    }

    private static void noTickSince() {
        SkyChairs x = Edge.busy();
        int left = x.count(8);
        x.ticks(0);
        x.ticks(-1);
        x.ticks(97);
        holds(31, "no tick went by", x.count(8), left);
        x.ticks(1);
        holds(31, "a tick went by", x.count(8), 0);
        x.put(0, 1);
        holds(31, "since then", x.count(8), 1);
        holds(31, "that one alone", x.undo(), 0);
        SkyChairs y = Edge.late();
        holds(31, "behind the last tick", y.count(8), 2);
        y.ticks(0);
        holds(31, "no tick can go by any more", y.undo(), 1);
    }

    // ---- Promises 32, 33

    private static void backRefused() {
        Edge.leaves(33, "there is none: a new object", Edge::fresh, SkyChairs::back, NONE);
        Edge.Made told = () -> {
            SkyChairs x = Check.told("place a 1 1;chairs 3;");
            x.put(0, 1);
            x.ticks(2);
            x.put(0, 1);
            return x;
        };
        Edge.leaves(33, "there is none: not kept", told, SkyChairs::back, NONE);
        Edge.leaves(33, "there is none: a text was told", with(Edge::busy, x -> x.text(0)), SkyChairs::back, NONE);
        SkyChairs x = Edge.busy();
        x.text(5);
        holds(33, "a text with a fault leaves the image", x.back(), 4);
        SkyChairs y = Edge.busy();
        y.text(-1);
        holds(33, "a text that is -2 leaves the image", y.back(), 4);
    }

    private static void backIsAsThen() {
        Edge.Made[] fronts = {Edge::early, Edge::busy, Edge::late, Edge::fresh};
        int[] next = {0, 6, 96, 0};
        for (int i = 0; i < fronts.length; i++) {
            holds(32, "which tick is next", fronts[i].make().keep(), next[i]);
            Edge.Made kept = with(fronts[i], SkyChairs::keep);
            holds(33, "which tick is next", kept.make().back(), next[i]);
            Edge.Made back = with(kept, SkyChairs::back);
            Edge.same(33, "as in the image: behind ticks", back, with(kept, x -> x.ticks(1), x -> x.ticks(30), SkyChairs::back));
            Edge.same(33, "as in the image: behind all ticks", back, with(kept, x -> x.ticks(96 - x.count(5)), SkyChairs::back));
            Edge.same(33, "as in the image: behind what was carried", back,
                    with(kept, x -> x.put(0, 1), x -> x.bring(1, 9), x -> x.put(1, 1), SkyChairs::back));
            Edge.same(33, "as in the image: behind what was undone", back, with(kept, x -> {
                undoAll(x);
                return 0;
            }, SkyChairs::back));
            Edge.same(33, "as in the image: behind a route", back,
                    with(kept, x -> route(x, 1, 1), x -> x.ticks(1), x -> route(x, 0, 0), SkyChairs::back));
            Edge.same(33, "as in the image: back twice", back, with(back, x -> x.ticks(1), SkyChairs::back));
            Edge.leaves(33, "back at once and again", back, SkyChairs::back, next[i]);
            Edge.leaves(32, "kept again it is the same", kept, SkyChairs::keep, next[i]);
        }
    }

    /** Everything but what can be undone: so much is kept that the same goes on from there. */
    private static void imageOfWhat() {
        Edge.Made plain = with(Edge::busy, x -> x.ticks(1), SkyChairs::keep);
        Edge.same(33, "chairs, sitters, sums, route, numbers, carry are all as then", plain,
                with(plain, x -> x.ticks(7), x -> x.put(0, 2), x -> route(x, 2, 0x11), SkyChairs::back));
        SkyChairs x = Check.told("place a 1 1;chairs 9;carry 4;");
        x.put(0, 3);
        x.keep();
        x.ticks(1);
        x.put(0, 4);
        x.back();
        holds(33, "carry as in the image", x.put(0, 40), 1);
    }

    private static void imageInPlaceOfOne() {
        SkyChairs x = Check.told("place a 1 1;chairs 9;");
        holds(32, "the first image", x.keep(), 0);
        x.ticks(5);
        x.put(0, 2);
        holds(32, "in place of one ahead", x.keep(), 5);
        x.ticks(91);
        holds(33, "back to the second one", x.back(), 5);
        holds(33, "its chairs", x.place(0, 3), 2);
        x.ticks(91);
        holds(32, "behind the last tick", x.keep(), 96);
        x.put(0, 1);
        holds(33, "back to that", x.back(), 96);
        holds(33, "chairs as there", x.place(0, 3), 2);
        holds(32, "without a text", Edge.fresh().keep(), 0);
    }

    private static void nothingToUndoThen() {
        SkyChairs x = Edge.busy();
        int left = x.count(8);
        x.keep();
        holds(32, "keep leaves what can be undone", x.count(8), left);
        holds(32, "and it can be", x.undo(), left - 1);
        x.back();
        holds(33, "nothing to undo behind back", x.undo(), NONE);
        holds(33, "nothing counted", x.count(8), 0);
        holds(33, "the put is as in the image", x.look(8, 0), Edge.busy().look(8, 0));
        x.route(1, 0);
        holds(33, "what is done then can be undone", x.undo(), 0);
    }

    private static void bookStays() {
        SkyChairs x = Check.told("sign a;place a 1 1;");
        x.day(1, true);
        x.keep();
        x.day(1, true);
        x.strike(0);
        x.ticks(3);
        holds(33, "back", x.back(), 0);
        holds(33, "the book isn't as in the image", x.count(6), 3);
        holds(33, "nor what is right", x.right(0), 1);
        Edge.same(33, "the book stays as it is", with(Edge::busy, y -> y.day(3, true), SkyChairs::back),
                with(Edge::busy, SkyChairs::back, y -> y.day(3, true)));
    }

    // ---- Promise 34

    private static void countRefused() {
        for (int what : new int[] {-1, 10, Edge.MIN, Edge.MAX}) {
            Edge.refused(34, "no such what " + what, x -> x.count(what), NONE);
        }
    }

    private static void countsEmpty() {
        for (int what = 0; what < 10; what++) {
            holds(34, "0 of a new object: " + what, Edge.fresh().count(what), 0);
            int asked = what;
            Edge.leaves(34, "asking changes nothing", Edge::busy, x -> x.count(asked), Edge.busy().count(asked));
        }
    }

    private static void countsFull() {
        StringBuilder text = new StringBuilder("chairs 40;carry 40;");
        for (int i = 0; i < 16; i++) {
            text.append(i < 5 ? "place " + (char) ('a' + i) + " 1 1;" : "").append(i < 4 ? "sign " + (char) ('a' + i) + ";" : "");
            text.append("come ").append(i).append(" 1;");
        }
        SkyChairs x = Check.told(text + "law sit " + "not ".repeat(63) + "1;");
        for (int i = 0; i < 60; i++) {
            x.day(15, true);
        }
        int[] full = {5, 40, 16, 4, 64, 0, 60, 60, 0, 40};
        for (int what = 0; what < 10; what++) {
            holds(34, "as many as may be: " + what, x.count(what), full[what]);
        }
        for (int i = 0; i < 30; i++) {
            x.put(i % 5, 1);
        }
        holds(34, "what can be undone", x.count(8), 20);
        holds(34, "stacked", x.count(9), 10);
        x.put(0, 40);
        holds(34, "none stacked", x.count(9), 0);
        x.ticks(96);
        holds(34, "the tick that is next: none", x.count(5), 96);
        holds(34, "what can be undone behind ticks", x.count(8), 0);
    }

    private static void asManyCallsAsThereMayBe() {
        SkyChairs x = Edge.early();
        int run = x.run(96);
        int way = x.way(96, 1);
        // Fewer than 40 calls made the front and asked so far.
        for (int i = 0; i < 236; i++) {
            x.route(2, i % 2 == 0 ? 0x01 : 0x10);
            x.undo();
        }
        holds(15, "of 512 calls the last ones are answered: run", x.run(96), run);
        holds(18, "of 512 calls the last ones are answered: way", x.way(96, 1), way);
    }
}
