import java.util.ArrayList;
import java.util.Arrays;
import java.util.HashMap;
import java.util.List;
import java.util.Map;
import java.util.NoSuchElementException;

/**
 * The document a second time, written as plainly as the Java library allows and without regard for
 * speed or room: trees, maps and lists, a fresh copy for each run. ModelTest holds SkyChairs against it.
 */
final class Model {
    static final class Fault extends RuntimeException {
        final int what;
        final int at;

        Fault(int what, int at) {
            this.what = what;
            this.at = at;
        }
    }

    static final class EvalError extends RuntimeException {
    }

    static final class Token {
        String kind;
        String text;
        long value;
        int at;
    }

    interface Expr {
        long eval(World w, int place);
    }

    static final class Text {
        List<String> placeNames = new ArrayList<>();
        List<int[]> places = new ArrayList<>();
        List<int[]> comes = new ArrayList<>();
        Map<Integer, Integer> skies = new HashMap<>();
        List<int[]> bands = new ArrayList<>();
        Map<String, Integer> sets = new HashMap<>();
        List<String> signs = new ArrayList<>();
        Map<String, Expr> laws = new HashMap<>();
        int knots = 0;
        int lines = 0;

        int set(String name, int plain) {
            return sets.getOrDefault(name, plain);
        }

        int sky(int tick) {
            for (int t = tick; t >= 0; t--) {
                if (skies.containsKey(t)) {
                    return skies.get(t);
                }
            }
            return 0;
        }
    }

    static final class Chair implements Cloneable {
        int state = 0;
        int place = -1;
        int wets = 0;
        int till = -1;
        boolean paid = false;

        Chair copy() {
            try {
                return (Chair) clone();
            } catch (CloneNotSupportedException e) {
                throw new IllegalStateException(e);
            }
        }
    }

    /** A front at a time, with what is otherwise in a run. */
    static final class World {
        Text text;
        List<Chair> chairs = new ArrayList<>();
        int tick = 0;
        int[] route = {};
        int routeTold = 0;
        long random;
        int coin, paid, dodges, missed, wall, lost, rotten, carried;

        Integer price = null;
        boolean secondBoy, noRain, noBands, noDodge, noWets;
        int shut = -1, absent = -1;

        World copy() {
            World w = new World();
            w.text = text;
            for (Chair c : chairs) {
                w.chairs.add(c.copy());
            }
            w.tick = tick;
            w.route = route.clone();
            w.routeTold = routeTold;
            w.random = random;
            w.coin = coin;
            w.paid = paid;
            w.dodges = dodges;
            w.missed = missed;
            w.wall = wall;
            w.lost = lost;
            w.rotten = rotten;
            w.carried = carried;
            return w;
        }

        int price() {
            return price != null ? price : text.set("price", 2);
        }

        int sky() {
            int s = text.sky(tick);
            return s == 2 && noRain ? 1 : s;
        }

        int howMany(int state, int place) {
            return (int) chairs.stream().filter(c -> c.state == state && c.place == place).count();
        }

        int stacked() {
            return (int) chairs.stream().filter(c -> c.state == 0).count();
        }

        int balance() {
            return coin - lost * text.set("canvas", 5);
        }

        void leave(Chair c) {
            if (c.state == 2) {
                if (!c.paid) {
                    missed++;
                }
                c.state = 1;
                c.paid = false;
                c.till = -1;
            }
        }

        void lose(Chair c) {
            leave(c);
            c.state = 3;
            c.place = -1;
            lost++;
        }

        void doTick() {
            for (Chair c : chairs) {
                if (c.place >= 0 && text.places.get(c.place)[2] >= 0 && text.places.get(c.place)[2] <= tick) {
                    lose(c);
                }
            }
            if (sky() == 2) {
                for (Chair c : chairs) {
                    if (c.state == 1 || c.state == 2) {
                        leave(c);
                        if (!noWets && ++c.wets == text.set("wets", 3)) {
                            lose(c);
                            rotten++;
                        }
                    }
                }
            }
            for (Chair c : chairs) {
                if (c.state == 2 && c.till == tick) {
                    leave(c);
                }
            }
            if (sky() != 2) {
                for (int i = 0; i < text.comes.size(); i++) {
                    if (i != absent && text.comes.get(i)[0] == tick) {
                        for (int k = 0; k < text.comes.get(i)[1]; k++) {
                            comeOne();
                        }
                    }
                }
            }
            if (route.length > 0) {
                int i = (tick - routeTold) % route.length;
                ask(route[i]);
                if (secondBoy) {
                    ask(route[route.length - 1 - i]);
                }
            }
            tick++;
            carried = 0;
        }

        void comeOne() {
            int best = -1;
            long most = Long.MIN_VALUE;
            for (int p = 0; p < text.places.size(); p++) {
                if (p == shut || howMany(1, p) == 0) {
                    continue;
                }
                long v = text.laws.containsKey("sit") ? law("sit", p, 0) : text.places.get(p)[0];
                if (v > most) {
                    most = v;
                    best = p;
                }
            }
            if (best < 0) {
                wall++;
                return;
            }
            long stay = law("stay", best, 8);
            for (Chair c : chairs) {
                if (c.state == 1 && c.place == best) {
                    c.state = 2;
                    c.till = tick + (int) (stay < 1 ? 1 : stay > 95 ? 95 : stay);
                    c.paid = false;
                    return;
                }
            }
        }

        long law(String kind, int place, long plain) {
            Expr e = text.laws.get(kind);
            if (e == null) {
                return plain;
            }
            try {
                return e.eval(this, place);
            } catch (EvalError error) {
                return plain;
            }
        }

        void ask(int place) {
            for (Chair c : chairs) {
                if (c.state == 2 && c.place == place && !c.paid) {
                    random = (random * 1103515245L + 12345L) % (1L << 31);
                    long number = random / 65536 % 100;
                    long dodge = noDodge ? 0 : law("dodge", place, 0);
                    if (number < dodge) {
                        dodges++;
                    } else {
                        c.paid = true;
                        paid++;
                        coin += price();
                    }
                }
            }
        }

        int doTicks(int n) {
            for (int i = 0; i < n; i++) {
                doTick();
            }
            return balance();
        }

        int move(int from, int to, int at, int place, int n) {
            int moved = 0;
            for (Chair c : chairs) {
                if (moved < n && c.state == from && c.place == at) {
                    c.state = to;
                    c.place = place;
                    moved++;
                }
            }
            return moved;
        }
    }

    // ---- reading

    static final List<String> LANGUAGE = Arrays.asList("place", "tide", "chairs", "come", "sky", "band", "price",
            "wage", "carry", "wets", "canvas", "seed", "sign", "law", "sit", "stay", "dodge", "or", "and", "not",
            "view", "far", "sun", "music", "taken", "free", "tick");
    static final List<String> NAMES = Arrays.asList("view", "far", "sun", "music", "taken", "free", "price", "tick");

    static final class Parser {
        final String s;
        int pos = 0;
        Token t;
        Text text = new Text();
        int open = 0;

        Parser(String s) {
            this.s = s;
        }

        void next() {
            while (pos < s.length() && (s.charAt(pos) == ' ' || s.charAt(pos) == '\n')) {
                pos++;
            }
            t = new Token();
            t.at = pos;
            if (pos >= s.length()) {
                t.kind = "end";
                t.text = "";
                return;
            }
            String rest = s.substring(pos);
            String word = lead(rest, "abcdefghijklmnopqrstuvwxyz");
            String digits = lead(rest, "0123456789");
            if (!word.isEmpty()) {
                t.kind = word.length() > 6 ? "bad" : LANGUAGE.contains(word) ? "key" : "word";
                t.text = word;
            } else if (!digits.isEmpty()) {
                t.kind = "number";
                t.text = digits;
                t.value = new java.math.BigInteger(digits).min(java.math.BigInteger.valueOf(1L << 40)).longValue();
            } else {
                t.kind = "mark";
                t.text = rest.startsWith("<=") || rest.startsWith(">=") || rest.startsWith("<>")
                        ? rest.substring(0, 2) : rest.substring(0, 1);
                if (!";()<>=+-*/".contains(t.text.substring(0, 1))) {
                    t.kind = "bad";
                }
            }
            pos += t.text.length();
        }

        static String lead(String rest, String signs) {
            int n = 0;
            while (n < rest.length() && signs.indexOf(rest.charAt(n)) >= 0) {
                n++;
            }
            return rest.substring(0, n);
        }

        boolean is(String what) {
            return (t.kind.equals("key") || t.kind.equals("mark")) && t.text.equals(what);
        }

        Fault fault(int what) {
            return new Fault(what, t.at);
        }

        int number(int low, int high) {
            if (!t.kind.equals("number")) {
                throw fault(1);
            }
            if (t.value < low || t.value > high) {
                throw fault(2);
            }
            int v = (int) t.value;
            next();
            return v;
        }

        String word() {
            if (!t.kind.equals("word")) {
                throw fault(1);
            }
            return t.text;
        }

        Text parse() {
            next();
            while (!t.kind.equals("end")) {
                line();
                if (!is(";")) {
                    throw fault(1);
                }
                next();
                text.lines++;
            }
            return text;
        }

        void most(int have, int most) {
            if (have >= most) {
                throw fault(2);
            }
        }

        void line() {
            if (!t.kind.equals("key")) {
                throw fault(1);
            }
            String w = t.text;
            switch (w) {
                case "place" -> {
                    most(text.places.size(), 5);
                    next();
                    String name = word();
                    if (text.placeNames.contains(name)) {
                        throw fault(3);
                    }
                    next();
                    int view = number(0, 99);
                    int far = number(0, 99);
                    int tide = -1;
                    if (is("tide")) {
                        next();
                        tide = number(0, 95);
                    }
                    text.placeNames.add(name);
                    text.places.add(new int[] {view, far, tide});
                }
                case "come" -> {
                    most(text.comes.size(), 16);
                    next();
                    int tick = number(0, 95);
                    text.comes.add(new int[] {tick, number(1, 20)});
                }
                case "sky" -> {
                    most(text.skies.size(), 12);
                    next();
                    Token at = t;
                    int tick = number(0, 95);
                    if (text.skies.containsKey(tick)) {
                        throw new Fault(3, at.at);
                    }
                    text.skies.put(tick, number(0, 2));
                }
                case "band" -> {
                    most(text.bands.size(), 2);
                    next();
                    int place = text.placeNames.indexOf(word());
                    if (place < 0) {
                        throw fault(4);
                    }
                    next();
                    int from = number(0, 95);
                    text.bands.add(new int[] {place, from, number(from, 95)});
                }
                case "sign" -> {
                    most(text.signs.size(), 4);
                    next();
                    if (text.signs.contains(word())) {
                        throw fault(3);
                    }
                    text.signs.add(t.text);
                    next();
                }
                case "chairs" -> once(w, 0, 40);
                case "price", "wage", "canvas" -> once(w, 0, 99);
                case "carry" -> once(w, 1, 40);
                case "wets" -> once(w, 1, 9);
                case "seed" -> once(w, 0, 99999);
                case "law" -> {
                    next();
                    String kind = t.text;
                    if (!is("sit") && !is("stay") && !is("dodge")) {
                        throw fault(1);
                    }
                    if (text.laws.containsKey(kind)) {
                        throw fault(3);
                    }
                    next();
                    open = 0;
                    text.laws.put(kind, or());
                }
                default -> throw fault(1);
            }
        }

        void once(String w, int low, int high) {
            if (text.sets.containsKey(w)) {
                throw fault(3);
            }
            next();
            text.sets.put(w, number(low, high));
        }

        void knot() {
            if (++text.knots > 64) {
                throw fault(2);
            }
            next();
        }

        Expr or() {
            Expr e = and();
            while (is("or")) {
                knot();
                Expr l = e;
                Expr r = and();
                e = (w, p) -> (l.eval(w, p) != 0 ? 1 : 0) | (r.eval(w, p) != 0 ? 1 : 0);
            }
            return e;
        }

        Expr and() {
            Expr e = not();
            while (is("and")) {
                knot();
                Expr l = e;
                Expr r = not();
                e = (w, p) -> (l.eval(w, p) != 0 ? 1 : 0) & (r.eval(w, p) != 0 ? 1 : 0);
            }
            return e;
        }

        Expr not() {
            if (is("not")) {
                knot();
                Expr e = not();
                return (w, p) -> e.eval(w, p) == 0 ? 1 : 0;
            }
            return compare();
        }

        Expr compare() {
            Expr l = sum();
            for (String op : new String[] {"<", "<=", "=", "<>", ">=", ">"}) {
                if (is(op)) {
                    knot();
                    Expr r = sum();
                    return (w, p) -> compared(op, l.eval(w, p), r.eval(w, p)) ? 1 : 0;
                }
            }
            return l;
        }

        static boolean compared(String op, long a, long b) {
            int c = Long.compare(a, b);
            return switch (op) {
                case "<" -> c < 0;
                case "<=" -> c <= 0;
                case "=" -> c == 0;
                case "<>" -> c != 0;
                case ">=" -> c >= 0;
                default -> c > 0;
            };
        }

        Expr sum() {
            Expr e = term();
            while (is("+") || is("-")) {
                String op = t.text;
                knot();
                Expr l = e;
                Expr r = term();
                e = (w, p) -> arithmetic(op, l.eval(w, p), r.eval(w, p));
            }
            return e;
        }

        Expr term() {
            Expr e = primary();
            while (is("*") || is("/")) {
                String op = t.text;
                knot();
                Expr l = e;
                Expr r = primary();
                e = (w, p) -> arithmetic(op, l.eval(w, p), r.eval(w, p));
            }
            return e;
        }

        static long arithmetic(String op, long a, long b) {
            java.math.BigInteger x = java.math.BigInteger.valueOf(a);
            java.math.BigInteger y = java.math.BigInteger.valueOf(b);
            if (op.equals("/") && b == 0) {
                throw new EvalError();
            }
            java.math.BigInteger v = switch (op) {
                case "+" -> x.add(y);
                case "-" -> x.subtract(y);
                case "*" -> x.multiply(y);
                default -> x.divide(y);
            };
            if (v.abs().compareTo(java.math.BigInteger.TEN.pow(12)) > 0) {
                throw new EvalError();
            }
            return v.longValue();
        }

        Expr primary() {
            if (t.kind.equals("number")) {
                if (t.value > 9999) {
                    throw fault(2);
                }
                long v = t.value;
                knot();
                return (w, p) -> v;
            }
            if (t.kind.equals("key") && NAMES.contains(t.text)) {
                String name = t.text;
                knot();
                return (w, p) -> named(name, w, p);
            }
            if (!is("(")) {
                throw fault(1);
            }
            if (++open > 8) {
                throw fault(2);
            }
            next();
            Expr e = or();
            if (!is(")")) {
                throw fault(1);
            }
            open--;
            next();
            return e;
        }

        static long named(String name, World w, int p) {
            return switch (name) {
                case "view" -> w.text.places.get(p)[0];
                case "far" -> w.text.places.get(p)[1];
                case "sun" -> w.sky() == 0 ? 1 : 0;
                case "music" -> !w.noBands && w.text.bands.stream()
                        .anyMatch(b -> b[0] == p && b[1] <= w.tick && w.tick <= b[2]) ? 1 : 0;
                case "taken" -> w.howMany(2, p);
                case "free" -> w.howMany(1, p);
                case "price" -> w.price();
                default -> w.tick;
            };
        }
    }

    // ---- the face

    private final StringBuilder tape = new StringBuilder();
    private Text text;
    private World world;
    private World image;
    private final List<World> undo = new ArrayList<>();
    private final List<int[]> book = new ArrayList<>();
    private int known = -1;
    private int fault = 0;
    private int faultAt = -1;

    Model() {
        begin(new Text());
    }

    private void begin(Text t) {
        text = t;
        world = new World();
        world.text = t;
        for (int i = 0; i < t.set("chairs", 0); i++) {
            world.chairs.add(new Chair());
        }
        world.random = t.set("seed", 0);
        image = null;
        undo.clear();
        book.clear();
        known = -1;
    }

    int feed(int... numbers) {
        if (tape.length() + 20 > 700) {
            return -1;
        }
        for (int n : numbers) {
            for (int shift = 24; shift >= 0; shift -= 8) {
                tape.append((char) (n >>> shift & 255));
            }
        }
        return tape.length();
    }

    int text(int n) {
        if (n < 0 || n > tape.length()) {
            return -2;
        }
        String s = tape.substring(0, n);
        tape.setLength(0);
        try {
            Text t = new Parser(s).parse();
            begin(t);
            fault = 0;
            faultAt = -1;
            return t.lines;
        } catch (Fault f) {
            fault = f.what;
            faultAt = f.at;
            return -1;
        }
    }

    int fault(int what) {
        return what == 0 ? fault : what == 1 ? faultAt : -1;
    }

    int named(int what, int letters) {
        List<String> names = what == 0 ? text.placeNames : what == 1 ? text.signs : List.of();
        for (int i = 0; i < names.size(); i++) {
            if (Check.letters(names.get(i)) == letters) {
                return i;
            }
        }
        return -1;
    }

    int look(int chair, int what) {
        if (chair < 0 || chair >= world.chairs.size()) {
            throw new IndexOutOfBoundsException();
        }
        Chair c = world.chairs.get(chair);
        return switch (what) {
            case 0 -> c.state;
            case 1 -> c.place;
            case 2 -> c.wets;
            case 3 -> c.till;
            case 4 -> c.paid ? 1 : 0;
            default -> throw new NoSuchElementException();
        };
    }

    private boolean isPlace(int p) {
        return p >= 0 && p < text.places.size();
    }

    int place(int p, int what) {
        if (!isPlace(p) || what < 0 || what > 4) {
            return -1;
        }
        return what < 3 ? text.places.get(p)[what] : world.howMany(what - 2, p);
    }

    int sky(int tick) {
        return tick < 0 || tick > 95 ? -1 : text.sky(tick);
    }

    long law(int what, int place) {
        if (what < 0 || what > 2 || !isPlace(place) || world.tick > 95) {
            return Long.MIN_VALUE;
        }
        return world.law(List.of("sit", "stay", "dodge").get(what), place, Long.MIN_VALUE);
    }

    private void remember() {
        undo.add(world.copy());
        if (undo.size() > 20) {
            undo.remove(0);
        }
    }

    private int carry(int n) {
        return Math.min(n, text.set("carry", 10) - world.carried);
    }

    int put(int place, int n) {
        if (!isPlace(place) || n < 0 || n > 40) {
            return -1;
        }
        World before = world.copy();
        int moved = world.move(0, 1, -1, place, carry(n));
        return moved(before, moved);
    }

    int bring(int place, int n) {
        if (!isPlace(place) || n < 0 || n > 40) {
            return -1;
        }
        World before = world.copy();
        int moved = world.move(1, 0, place, -1, carry(n));
        return moved(before, moved);
    }

    private int moved(World before, int moved) {
        if (moved > 0) {
            World after = world;
            world = before;
            remember();
            world = after;
            world.carried += moved;
        }
        return moved;
    }

    boolean route(int n, long places) {
        if (n < 0 || n > 8) {
            return false;
        }
        int[] r = new int[n];
        for (int i = 0; i < n; i++) {
            r[i] = (int) (places >>> 4 * i & 15);
            if (!isPlace(r[i])) {
                return false;
            }
        }
        remember();
        world.route = r;
        world.routeTold = world.tick;
        return true;
    }

    private boolean fits(int n) {
        return n >= 0 && (long) world.tick + n <= 96;
    }

    int ticks(int n) {
        if (!fits(n)) {
            return -1;
        }
        if (n > 0) {
            undo.clear();
        }
        world.doTicks(n);
        return world.tick;
    }

    int sum(int what) {
        return switch (what) {
            case 0 -> world.coin;
            case 1 -> world.paid;
            case 2 -> world.dodges;
            case 3 -> world.missed;
            case 4 -> world.wall;
            case 5 -> world.lost;
            case 6 -> world.rotten;
            case 7 -> world.balance();
            default -> -1;
        };
    }

    int run(int n) {
        return fits(n) ? world.copy().doTicks(n) : Integer.MIN_VALUE;
    }

    private static boolean one(int what) {
        return what == 0 || what == 1;
    }

    int many(int place, int n, int what) {
        if (!isPlace(place) || !fits(n) || !one(what)) {
            return Integer.MIN_VALUE;
        }
        int[] best = null;
        for (int k = 0; k <= world.stacked(); k++) {
            World w = world.copy();
            w.move(0, 1, -1, place, k);
            int b = w.doTicks(n);
            if (best == null || b > best[1]) {
                best = new int[] {k, b};
            }
        }
        return best[what];
    }

    int when(int n, int what) {
        if (!fits(n) || !one(what)) {
            return Integer.MIN_VALUE;
        }
        int[] best = null;
        for (int k = 0; k <= n; k++) {
            World w = world.copy();
            w.doTicks(k);
            if (k < n) {
                for (Chair c : w.chairs) {
                    if (c.state == 1) {
                        c.state = 0;
                        c.place = -1;
                    }
                }
            }
            int b = w.doTicks(n - k);
            if (best == null || b > best[1]) {
                best = new int[] {world.tick + k, b};
            }
        }
        return best[what];
    }

    private static void orders(List<Integer> so, int n, List<int[]> all) {
        if (so.size() == n) {
            all.add(so.stream().mapToInt(i -> i).toArray());
        }
        for (int i = 0; i < n; i++) {
            if (!so.contains(i)) {
                so.add(i);
                orders(so, n, all);
                so.remove(so.size() - 1);
            }
        }
    }

    private static int pack(int[] order) {
        int packed = 0;
        for (int i = order.length - 1; i >= 0; i--) {
            packed = packed * 16 + order[i];
        }
        return packed;
    }

    int way(int n, int what) {
        if (!fits(n) || !one(what) || text.places.isEmpty()) {
            return -1;
        }
        List<int[]> all = new ArrayList<>();
        orders(new ArrayList<>(), text.places.size(), all);
        int[] best = null;
        for (int[] order : all) {
            World w = world.copy();
            w.route = order;
            w.routeTold = w.tick;
            w.doTicks(n);
            if (best == null || w.coin > best[0]) {
                best = new int[] {w.coin, pack(order)};
            }
        }
        return best[what];
    }

    int best(int n, int what) {
        if (!fits(n) || !one(what)) {
            return Integer.MIN_VALUE;
        }
        int[] best = null;
        for (int price = 0; price <= 20; price++) {
            World w = world.copy();
            w.price = price;
            int b = w.doTicks(n);
            if (best == null || b > best[1]) {
                best = new int[] {price, b};
            }
        }
        return best[what];
    }

    int second(int n) {
        if (!fits(n) || world.route.length == 0) {
            return Integer.MIN_VALUE;
        }
        World w = world.copy();
        w.secondBoy = true;
        return w.doTicks(n) - run(n) - text.set("wage", 0);
    }

    int gather(int what) {
        if (what < 0 || what > 2 || text.places.isEmpty()) {
            return -1;
        }
        List<int[]> all = new ArrayList<>();
        orders(new ArrayList<>(), text.places.size(), all);
        int[] best = null;
        for (int[] order : all) {
            int saved = 0;
            int walk = 0;
            int at = 0;
            for (int i = 0; i < order.length; i++) {
                int[] place = text.places.get(order[i]);
                if (place[2] < 0 || world.tick + i < place[2]) {
                    saved += world.howMany(1, order[i]);
                }
                walk += Math.abs(place[1] - at);
                at = place[1];
            }
            if (best == null || saved > best[0] || saved == best[0] && walk < best[1]) {
                best = new int[] {saved, walk, pack(order)};
            }
        }
        return best[what];
    }

    int day(int signs, boolean rained) {
        if (signs < 0 || signs >> text.signs.size() != 0 || book.size() >= 60) {
            return -1;
        }
        book.add(new int[] {signs, rained ? 1 : 0, -1});
        return book.size() - 1;
    }

    int strike(int day) {
        if (day < 0 || day >= book.size() || book.size() >= 60) {
            return -1;
        }
        book.add(new int[] {0, 0, day});
        return book.size() - 1;
    }

    boolean known(int n) {
        if (n < -1 || n > book.size()) {
            return false;
        }
        known = n;
        return true;
    }

    private int knownCount() {
        return known < 0 ? book.size() : known;
    }

    /** Whether an item isn't struck by one that counts itself. */
    private boolean counts(int item) {
        for (int i = item + 1; i < knownCount(); i++) {
            if (book.get(i)[2] == item && counts(i)) {
                return false;
            }
        }
        return true;
    }

    private int rights(int one, int other, int how) {
        int right = 0;
        for (int i = 0; i < knownCount(); i++) {
            int[] d = book.get(i);
            int a = d[0] >> one & 1;
            int b = d[0] >> other & 1;
            if (d[2] < 0 && counts(i) && (how == 0 ? a & b : a | b) == d[1]) {
                right++;
            }
        }
        return right;
    }

    private boolean isSign(int s) {
        return s >= 0 && s < text.signs.size();
    }

    int right(int sign) {
        return isSign(sign) ? rights(sign, sign, 0) : -1;
    }

    int tells() {
        int best = -1;
        for (int s = 0; s < text.signs.size(); s++) {
            if (best < 0 || right(s) > right(best)) {
                best = s;
            }
        }
        return best;
    }

    int joined(int one, int other, int how) {
        return isSign(one) && isSign(other) && one(how) ? rights(one, other, how) : -1;
    }

    int dodgers(int a, int b, int m, int what) {
        if (a < 0 || a > 999 || b < 0 || b > 999 || m < 0 || m > Math.min(a, b) || !one(what)) {
            return -1;
        }
        return what == 0 ? a + b - m : m == 0 ? -2 : a * b / m;
    }

    int tried(int what, int i, int n) {
        boolean such = what == 3 ? isPlace(i) : what == 5 ? i >= 0 && i < text.comes.size()
                : what >= 0 && what <= 4 && i == 0;
        if (!such || !fits(n)) {
            return Integer.MIN_VALUE;
        }
        World w = world.copy();
        w.noRain = what == 0;
        w.noBands = what == 1;
        w.noDodge = what == 2;
        w.shut = what == 3 ? i : -1;
        w.noWets = what == 4;
        w.absent = what == 5 ? i : -1;
        return w.doTicks(n);
    }

    int chance(int seed, int n, int atLeast) {
        if (seed < 0 || !fits(n)) {
            return -1;
        }
        int good = 0;
        long random = seed;
        for (int k = 0; k < 10; k++) {
            random = (random * 1103515245L + 12345L) % (1L << 31);
            World w = world.copy();
            w.random = random / 65536;
            if (w.doTicks(n) >= atLeast) {
                good++;
            }
        }
        return good;
    }

    int undo() {
        if (undo.isEmpty()) {
            return -1;
        }
        world = undo.remove(undo.size() - 1);
        return undo.size();
    }

    int keep() {
        image = world.copy();
        return world.tick;
    }

    int back() {
        if (image == null) {
            return -1;
        }
        world = image.copy();
        undo.clear();
        return world.tick;
    }

    int count(int what) {
        return switch (what) {
            case 0 -> text.places.size();
            case 1 -> world.chairs.size();
            case 2 -> text.comes.size();
            case 3 -> text.signs.size();
            case 4 -> text.knots;
            case 5 -> world.tick;
            case 6 -> book.size();
            case 7 -> knownCount();
            case 8 -> undo.size();
            case 9 -> world.stacked();
            default -> -1;
        };
    }
}
