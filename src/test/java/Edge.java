import java.util.ArrayList;
import java.util.List;
import java.util.NoSuchElementException;

/**
 * What the edge tests share: a sentence of the document with its promise, fronts on which a call is refused,
 * and all that can be seen of an object, so that a refused call can be held against the same calls without it.
 */
final class Edge {
    static final int NONE = SkyChairs.NONE;
    static final int NO = Integer.MIN_VALUE;
    static final long ERROR = Long.MIN_VALUE;
    static final int MAX = Integer.MAX_VALUE;
    static final int MIN = Integer.MIN_VALUE;
    /** What look() answers here in place of its exceptions. */
    static final int NO_CHAIR = -1000;
    static final int NO_WHAT = -1001;

    private static final String BUSY = "place a 5 3;place b 9 7 tide 30;chairs 9;come 0 2;come 4 5;come 9 20;sky 2 2;sky 3 1;"
            + "sky 8 0;sky 40 2;band a 0 20;price 3;wage 2;carry 7;wets 2;canvas 4;seed 12;sign s;sign t;"
            + "law sit view+music*3-taken*2;law stay 6;law dodge 60;";

    /** A call, or a row of calls, with its answer. */
    interface Call {
        long on(SkyChairs x);
    }

    /** Makes the same object each time. */
    interface Made {
        SkyChairs make();
    }

    private Edge() {
    }

    static void holds(int promise, String sentence, long got, long want) {
        Check.due("Promise " + promise + ": " + sentence, got, want);
    }

    static void holds(int promise, String sentence, boolean got, boolean want) {
        Check.due("Promise " + promise + ": " + sentence, got, want);
    }

    /** The call answers so, and behind it nothing can be seen that isn't there without it. */
    static void leaves(int promise, String sentence, Made made, Call call, long want) {
        holds(promise, sentence, call.on(made.make()), want);
        same(promise, sentence + ": nothing else has changed", made, () -> {
            SkyChairs x = made.make();
            call.on(x);
            return x;
        });
    }

    /** A refused call, ahead of the first tick, among the ticks and behind the last one. */
    static void refused(int promise, String sentence, Call call, long want) {
        leaves(promise, sentence + " (early)", Edge::early, call, want);
        leaves(promise, sentence + " (busy)", Edge::busy, call, want);
        leaves(promise, sentence + " (late)", Edge::late, call, want);
    }

    static void same(int promise, String sentence, Made one, Made other) {
        List<String> is = all(other);
        List<String> due = all(one);
        String first = "";
        for (int i = 0; i < due.size() && first.isEmpty(); i++) {
            first = i < is.size() && is.get(i).equals(due.get(i)) ? "" : " [" + (i < is.size() ? is.get(i) : "") + "]";
        }
        holds(promise, sentence + first, is.equals(due), true);
    }

    /** A new object. */
    static SkyChairs fresh() {
        return new SkyChairs();
    }

    /** Tick 0 is next: chairs out, a route, a book, an image, bytes on the tape. */
    static SkyChairs early() {
        SkyChairs x = Check.told(BUSY);
        x.put(0, 2);
        x.keep();
        x.put(1, 2);
        x.bring(0, 1);
        x.route(2, 0x10);
        x.day(1, true);
        Check.feed(x, "chairs 3;price 1;");
        return x;
    }

    /** Some sit, paid or not, some are wet; an image of another tick, a fault, strikes; much to undo. */
    static SkyChairs busy() {
        SkyChairs x = Check.told(BUSY);
        x.put(0, 3);
        x.put(1, 3);
        x.route(3, 0x001);
        x.ticks(4);
        x.keep();
        x.ticks(2);
        book(x);
        x.put(1, 1);
        x.put(0, 1);
        x.bring(0, 2);
        x.route(2, 0x01);
        x.put(1, 1);
        Check.tell(x, "price 1;price 2;");
        Check.feed(x, "sign q;");
        return x;
    }

    private static void book(SkyChairs x) {
        x.day(1, true);
        x.day(2, false);
        x.day(3, true);
        x.strike(1);
        x.day(0, false);
        x.strike(3);
        x.known(4);
    }

    /** No tick is next: chairs lost by tide and rain, some out. */
    static SkyChairs late() {
        SkyChairs x = busy();
        x.ticks(90);
        x.put(0, 1);
        x.route(1, 1);
        return x;
    }

    static long looked(SkyChairs x, int chair, int what) {
        try {
            return x.look(chair, what);
        } catch (IndexOutOfBoundsException e) {
            return e.getClass() == IndexOutOfBoundsException.class ? NO_CHAIR : NO_CHAIR - 9;
        } catch (NoSuchElementException e) {
            return e.getClass() == NoSuchElementException.class ? NO_WHAT : NO_WHAT - 9;
        }
    }

    // ---- all that can be seen

    /** Several ways on from one object, each on an object of its own: what is hidden shows in one of them. */
    private static List<String> all(Made made) {
        List<String> seen = new ArrayList<>();
        read(seen, "now", made.make());
        undoAll(seen, made.make());
        goOn(seen, made.make());
        goBack(seen, made.make());
        readTape(seen, made.make());
        carryAll(seen, made.make());
        readBook(seen, made.make());
        return seen;
    }

    private static void note(List<String> seen, String what, long answer) {
        seen.add(what + "=" + answer);
    }

    private static void undoAll(List<String> seen, SkyChairs x) {
        for (int i = 0; i < 22; i++) {
            note(seen, "undo " + i, x.undo());
        }
        read(seen, "undone", x);
    }

    private static void goOn(List<String> seen, SkyChairs x) {
        note(seen, "ticks(1)", x.ticks(1));
        read(seen, "a tick on", x);
        note(seen, "ticks(5)", x.ticks(5));
        read(seen, "six on", x);
        note(seen, "ticks to the end", x.ticks(96 - x.count(5)));
        read(seen, "at the end", x);
    }

    private static void goBack(List<String> seen, SkyChairs x) {
        note(seen, "back", x.back());
        read(seen, "back", x);
        note(seen, "ticks(3)", x.ticks(3));
        read(seen, "back and on", x);
    }

    private static void readTape(List<String> seen, SkyChairs x) {
        int blanks = 0x20202020;
        int length = x.feed(blanks, blanks, blanks, blanks, blanks);
        note(seen, "feed", length);
        note(seen, "text", x.text(length < 0 ? 700 : length));
        read(seen, "the tape as text", x);
    }

    private static void carryAll(List<String> seen, SkyChairs x) {
        for (int place = 0; place < x.count(0); place++) {
            note(seen, "put at " + place, x.put(place, 40));
        }
        read(seen, "put", x);
    }

    private static void readBook(List<String> seen, SkyChairs x) {
        for (int n = -1; n <= 61; n++) {
            note(seen, "known " + n, x.known(n) ? 1 : 0);
            note(seen, "right of 0 by " + n, x.right(0));
            note(seen, "right of 1 by " + n, x.right(1));
        }
        note(seen, "a day more", x.day(0, false));
        note(seen, "by how many", x.count(7));
    }

    private static void read(List<String> seen, String when, SkyChairs x) {
        int left = 96 - x.count(5);
        for (int what = 0; what < 10; what++) {
            note(seen, when + ": count " + what, x.count(what));
            note(seen, when + ": sum " + what, x.sum(what));
        }
        for (int chair = 0; chair < Math.min(9, x.count(1)); chair++) {
            for (int what = 0; what < 5; what++) {
                note(seen, when + ": look " + chair + " " + what, x.look(chair, what));
            }
        }
        for (int place = 0; place < x.count(0); place++) {
            for (int what = 0; what < 5; what++) {
                note(seen, when + ": place " + place + " " + what, x.place(place, what));
                note(seen, when + ": law " + what + " " + place, x.law(what, place));
            }
        }
        for (int what = 0; what < 2; what++) {
            note(seen, when + ": fault " + what, x.fault(what));
            note(seen, when + ": named " + what, x.named(what, Check.letters(what == 0 ? "b" : "t")));
        }
        note(seen, when + ": sky", x.sky(8) * 9 + x.sky(2));
        note(seen, when + ": run", x.run(left));
        note(seen, when + ": second", x.second(Math.min(3, left)));
        note(seen, when + ": gather", x.gather(2));
        note(seen, when + ": right", x.right(0));
        note(seen, when + ": tells", x.tells());
        note(seen, when + ": chance", x.chance(5, Math.min(6, left), 4));
    }
}
