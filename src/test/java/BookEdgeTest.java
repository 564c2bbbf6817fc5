/** Boundary cases of promises 22 to 28: days and strikes of the book, by how many it is known, two counts. */
public final class BookEdgeTest {
    private static final int NONE = Edge.NONE;

    private BookEdgeTest() {
    }

    public static void main(String[] args) {
        dayRefused();
        daysOfSigns();
        fullBook();
        strikeRefused();
        strikes();
        strikesInARow();
        knownRefused();
        knownEdges();
        knownAheadOfStrikes();
        rightRefused();
        rightEdges();
        tells();
        joinedRefused();
        joinedEdges();
        dodgersRefused();
        dodgersEdges();
        Check.end();
    }

    private static void holds(int promise, String sentence, long got, long want) {
        Edge.holds(promise, sentence, got, want);
    }

    private static void holds(int promise, String sentence, boolean got, boolean want) {
        Edge.holds(promise, sentence, got, want);
    }

    private static SkyChairs signs(int n) {
        return Check.told("sign a;sign b;sign c;sign d;".substring(0, 7 * n));
    }

    private static SkyChairs days(int n) {
        SkyChairs x = Check.told("place a 1 1;chairs 2;sign a;sign b;");
        for (int i = 0; i < n; i++) {
            x.day(i % 4, i % 3 == 0);
        }
        return x;
    }

    // ---- Promise 22

    private static void dayRefused() {
        for (int bits : new int[] {4, 5, 16, -1, -4, 1 << 30, Edge.MIN, Edge.MAX}) {
            Edge.refused(22, "no such signs " + bits, x -> x.day(bits, true), NONE);
        }
        Edge.leaves(22, "there are 60", () -> days(60), x -> x.day(0, true), NONE);
        Edge.leaves(22, "there are 60, no such signs", () -> days(60), x -> x.day(4, true), NONE);
        Edge.leaves(22, "no signs at all", Edge::fresh, x -> x.day(1, true), NONE);
    }

    private static void daysOfSigns() {
        for (int n = 0; n <= 4; n++) {
            SkyChairs x = signs(n);
            holds(22, "none of " + n + " signs, numbered from 0 on", x.day(0, true), 0);
            holds(22, "all of " + n + " signs", x.day((1 << n) - 1, false), 1);
            holds(22, "one more than " + n + " signs", x.day(1 << n, false), NONE);
            holds(34, "two days", x.count(6), 2);
        }
    }

    private static void fullBook() {
        SkyChairs x = signs(1);
        for (int i = 0; i < 60; i++) {
            holds(22, "up to 60, days and strikes", i % 5 == 4 ? x.strike(i - 1) : x.day(1, true), i);
        }
        holds(22, "a 61st day", x.day(1, true), NONE);
        holds(23, "a 61st strike", x.strike(0), NONE);
        holds(34, "60 in the book", x.count(6), 60);
        holds(25, "of 60: 48 days less 12 struck", x.right(0), 36);
        holds(24, "known by all 60", x.known(60), true);
        holds(24, "not by 61", x.known(61), false);
        holds(23, "the last may be struck: no room", x.strike(59), NONE);
        SkyChairs y = days(59);
        holds(23, "the sixtieth is a strike", y.strike(58), 59);
        holds(22, "no room for a day", y.day(0, true), NONE);
    }

    // ---- Promise 23

    private static void strikeRefused() {
        for (int day : new int[] {-1, 6, 60, Edge.MIN, Edge.MAX}) {
            Edge.refused(23, "no such one in the book " + day, x -> x.strike(day), NONE);
        }
        Edge.leaves(23, "an empty book", Edge::fresh, x -> x.strike(0), NONE);
        Edge.leaves(23, "itself", () -> days(3), x -> x.strike(3), NONE);
        Edge.leaves(23, "there are 60", () -> days(60), x -> x.strike(59), NONE);
    }

    private static void strikes() {
        SkyChairs x = signs(1);
        x.day(1, true);
        x.day(1, true);
        x.day(1, true);
        holds(23, "the first", x.strike(0), 3);
        holds(25, "the first is struck", x.right(0), 2);
        holds(23, "the last", x.strike(2), 4);
        holds(25, "the last day is struck", x.right(0), 1);
        holds(23, "one that is struck already", x.strike(0), 5);
        holds(25, "struck once as twice", x.right(0), 1);
        holds(23, "the last strike of it", x.strike(5), 6);
        holds(25, "by the other still", x.right(0), 1);
        holds(23, "the first strike of it", x.strike(3), 7);
        holds(25, "by none any more", x.right(0), 2);
        holds(34, "strikes are in the book, too", x.count(6), 8);
        SkyChairs y = days(3);
        y.known(1);
        holds(23, "one that isn't known", y.strike(2), 3);
    }

    private static void strikesInARow() {
        SkyChairs x = signs(1);
        x.day(1, true);
        for (int i = 0; i < 59; i++) {
            holds(23, "a strike of a strike, down to the day", x.strike(i), i + 1);
            holds(25, "asked from the last one on: " + i, x.right(0), i % 2);
        }
        for (int n = 1; n <= 60; n++) {
            x.known(n);
            holds(25, "known by " + n + " of them", x.right(0), n % 2);
        }
    }

    // ---- Promise 24

    private static void knownRefused() {
        for (int n : new int[] {-2, 7, 60, Edge.MIN, Edge.MAX}) {
            Edge.refused(24, "no such n " + n, x -> x.known(n) ? 1 : 0, 0);
        }
        Edge.leaves(24, "1 of none", Edge::fresh, x -> x.known(1) ? 1 : 0, 0);
        Edge.leaves(24, "61 of 60", () -> days(60), x -> x.known(61) ? 1 : 0, 0);
    }

    private static void knownEdges() {
        SkyChairs x = signs(1);
        holds(24, "0 of none", x.known(0), true);
        x.day(1, true);
        holds(25, "by none, also behind a day that comes", x.right(0), 0);
        holds(34, "by none", x.count(7), 0);
        holds(24, "1 of one", x.known(1), true);
        holds(25, "by one", x.right(0), 1);
        x.day(1, true);
        holds(25, "not those to come", x.right(0), 1);
        holds(34, "by one still", x.count(7), 1);
        holds(24, "2 of two", x.known(2), true);
        holds(24, "3 of two", x.known(3), false);
        holds(25, "as it was", x.right(0), 2);
        holds(24, "back to one", x.known(1), true);
        holds(25, "by one again", x.right(0), 1);
        holds(24, "by all", x.known(-1), true);
        x.day(1, true);
        holds(25, "also those to come", x.right(0), 3);
        holds(34, "by how many: all", x.count(7), 3);
        holds(24, "none", x.known(0), true);
        holds(26, "none known: the first tells", x.tells(), 0);
        holds(27, "none known: none right", x.joined(0, 0, 1), 0);
        SkyChairs y = days(60);
        holds(24, "60 of 60", y.known(60), true);
        holds(24, "59 of 60", y.known(59), true);
        holds(34, "by 59", y.count(7), 59);
        holds(34, "60 in it", y.count(6), 60);
    }

    private static void knownAheadOfStrikes() {
        SkyChairs x = signs(2);
        x.day(2, true);
        x.day(1, true);
        x.strike(0);
        x.strike(2);
        int[] right = {0, 1, 1, 0, 1};
        int[] tells = {0, 1, 0, 0, 0};
        for (int n = 0; n <= 4; n++) {
            x.known(n);
            holds(25, "struck by one of the first " + n + " alone", x.right(1), right[n]);
            holds(26, "tells by the first " + n, x.tells(), tells[n]);
        }
    }

    // ---- Promises 25, 26, 27

    private static void rightRefused() {
        for (int sign : new int[] {-1, 2, 4, 31, 32, Edge.MIN, Edge.MAX}) {
            Edge.refused(25, "no such sign " + sign, x -> x.right(sign), NONE);
        }
        Edge.leaves(25, "no signs", Edge::fresh, x -> x.right(0), NONE);
    }

    private static void rightEdges() {
        SkyChairs x = signs(4);
        for (int sign = 0; sign < 4; sign++) {
            holds(25, "an empty book", x.right(sign), 0);
        }
        holds(25, "behind the fourth", x.right(4), NONE);
        x.day(8, true);
        holds(25, "there and it rained", x.right(3), 1);
        holds(25, "not there and it rained", x.right(0), 0);
        x.day(8, false);
        holds(25, "there and it didn't rain", x.right(3), 1);
        holds(25, "not there and it didn't rain", x.right(0), 1);
        for (int i = 2; i < 60; i++) {
            x.day(15, true);
        }
        holds(25, "of a full book", x.right(3), 59);
        holds(25, "the first of a full book", x.right(0), 59);
    }

    private static void tells() {
        Edge.leaves(26, "no signs", Edge::fresh, SkyChairs::tells, NONE);
        Edge.leaves(26, "asking changes nothing", Edge::busy, SkyChairs::tells, Edge.busy().tells());
        holds(26, "one sign", signs(1).tells(), 0);
        holds(26, "an empty book: of several the first", signs(4).tells(), 0);
        SkyChairs x = signs(4);
        x.day(8, true);
        holds(26, "the last sign", x.tells(), 3);
        x.day(2, true);
        holds(26, "of several the first", x.tells(), 1);
        x.day(8, true);
        holds(26, "the most", x.tells(), 3);
        SkyChairs y = signs(2);
        y.day(3, false);
        holds(26, "none is right: the first", y.tells(), 0);
    }

    private static void joinedRefused() {
        for (int sign : new int[] {-1, 2, 4, 31, 32, Edge.MIN, Edge.MAX}) {
            Edge.refused(27, "no such one " + sign, x -> x.joined(sign, 0, 0), NONE);
            Edge.refused(27, "no such other " + sign, x -> x.joined(1, sign, 1), NONE);
        }
        for (int how : new int[] {-1, 2, Edge.MIN, Edge.MAX}) {
            Edge.refused(27, "no such how " + how, x -> x.joined(0, 1, how), NONE);
        }
        Edge.leaves(27, "no signs", Edge::fresh, x -> x.joined(0, 0, 0), NONE);
    }

    private static void joinedEdges() {
        int[][] both = {{0, 1}, {0, 1}, {0, 1}, {1, 0}};
        int[][] either = {{0, 1}, {1, 0}, {1, 0}, {1, 0}};
        for (int bits = 0; bits < 4; bits++) {
            for (int rain = 0; rain < 2; rain++) {
                SkyChairs x = signs(4);
                holds(27, "an empty book", x.joined(2, 3, rain), 0);
                x.day(bits << 2, rain == 1);
                holds(27, "both, of " + bits, x.joined(2, 3, 0), both[bits][1 - rain]);
                holds(27, "either, of " + bits, x.joined(2, 3, 1), either[bits][1 - rain]);
                holds(27, "both, the other way round", x.joined(3, 2, 0), both[bits][1 - rain]);
                holds(27, "either, the other way round", x.joined(3, 2, 1), either[bits][1 - rain]);
                holds(27, "one with itself, both", x.joined(3, 3, 0), x.right(3));
                holds(27, "one with itself, either", x.joined(3, 3, 1), x.right(3));
                holds(27, "two that aren't there", x.joined(0, 1, 1), 1 - rain);
                x.strike(0);
                holds(27, "struck", x.joined(2, 3, 0) + x.joined(2, 3, 1), 0);
                x.known(1);
                holds(27, "known ahead of the strike", x.joined(2, 3, 0), both[bits][1 - rain]);
            }
        }
    }

    // ---- Promise 28

    private static void dodgersRefused() {
        int[][] wrong = {{-1, 5, 0, 0}, {1000, 5, 0, 0}, {5, -1, 0, 0}, {5, 1000, 0, 0}, {5, 5, -1, 0}, {4, 5, 5, 0}, {5, 4, 5, 0},
            {5, 4, 3, -1}, {5, 4, 3, 2}, {0, 0, 1, 1}, {-1, -1, -1, 1}, {1000, 1000, 1000, 1}, {5, 4, 0, 2}, {5, 4, 0, -1},
            {Edge.MIN, 5, 0, 0}, {Edge.MAX, 5, 0, 1}, {5, Edge.MIN, 0, 0}, {5, Edge.MAX, 0, 1}, {5, 5, Edge.MIN, 1}, {5, 5, Edge.MAX, 1},
            {5, 5, 5, Edge.MIN}, {5, 5, 5, Edge.MAX}, {4, 5, 5, 1}, {1000, 5, 0, 1}};
        for (int[] w : wrong) {
            String which = w[0] + " " + w[1] + " " + w[2] + " " + w[3];
            Edge.refused(28, "no such ones " + which, x -> x.dodgers(w[0], w[1], w[2], w[3]), NONE);
        }
    }

    private static void dodgersEdges() {
        int[][] right = {{0, 0, 0, 0, 0}, {0, 0, 0, 1, -2}, {999, 999, 999, 0, 999}, {999, 999, 999, 1, 999}, {999, 999, 0, 0, 1998},
            {999, 999, 1, 1, 998001}, {999, 0, 0, 0, 999}, {0, 999, 0, 1, -2}, {7, 5, 5, 0, 7}, {5, 7, 5, 0, 7}, {7, 5, 5, 1, 7},
            {7, 5, 4, 1, 8}, {5, 5, 3, 1, 8}, {7, 7, 5, 1, 9}, {1, 1, 1, 0, 1}, {1, 1, 1, 1, 1}, {7, 5, 0, 1, -2}, {7, 5, 0, 0, 12}};
        for (int[] r : right) {
            String which = r[0] + " " + r[1] + " " + r[2] + " " + r[3];
            holds(28, "dodgers " + which, Edge.fresh().dodgers(r[0], r[1], r[2], r[3]), r[4]);
            holds(28, "whatever the front is: " + which, Edge.late().dodgers(r[0], r[1], r[2], r[3]), r[4]);
        }
    }
}
