import java.nio.charset.StandardCharsets;
import java.util.NoSuchElementException;
import java.util.Random;

/** Holds SkyChairs against the model over texts and calls made by fixed seeds. */
public final class ModelTest {
    private static final int[] ODD = {Integer.MIN_VALUE, -2, -1, 96, 97, 100, Integer.MAX_VALUE, 41, 60, 61};

    private final Random random;
    private final SkyChairs x = new SkyChairs();
    private final Model model = new Model();
    private final StringBuilder story = new StringBuilder();
    private String names;

    private ModelTest(long seed) {
        random = new Random(seed);
    }

    public static void main(String[] args) {
        int runs = args.length > 0 ? Integer.parseInt(args[0]) : 600;
        long from = args.length > 1 ? Long.parseLong(args[1]) : 1;
        int wrong = 0;
        for (long seed = from; seed < from + runs && wrong < 5; seed++) {
            ModelTest test = new ModelTest(seed);
            if (!test.go()) {
                wrong++;
                System.out.println("seed " + seed + ":\n" + test.story);
            }
        }
        System.out.println(runs + " runs against the model, " + wrong + " not as due");
        if (wrong != 0) {
            System.exit(1);
        }
    }

    private int to(int n) {
        return random.nextInt(n);
    }

    private boolean due(String call, long got, long want) {
        story.append(call).append(" -> ").append(got).append('\n');
        if (got != want) {
            story.append("   due is ").append(want).append('\n');
        }
        return got == want;
    }

    private boolean go() {
        int calls = 0;
        boolean good = true;
        while (good && calls < 400) {
            String text = to(4) == 0 ? spoiled(makeText()) : makeText();
            calls += 40;
            good = tell(text) && setUp();
            int n = 20 + to(60);
            for (int i = 0; i < n && good; i++, calls++) {
                good = one();
            }
            good = good && same();
        }
        return good;
    }

    private boolean tell(String text) {
        byte[] bytes = text.getBytes(StandardCharsets.ISO_8859_1);
        for (int i = 0; i < bytes.length; i += 20) {
            int[] n = new int[5];
            for (int k = 0; k < 5; k++) {
                n[k] = Check.four(bytes, i + 4 * k);
            }
            if (!due("feed", x.feed(n[0], n[1], n[2], n[3], n[4]), model.feed(n))) {
                return false;
            }
        }
        story.append(text).append('\n');
        int length = to(12) == 0 ? to(text.length() + 40) : text.length();
        return due("text(" + length + ")", x.text(length), model.text(length))
                && due("fault(0)", x.fault(0), model.fault(0)) && due("fault(1)", x.fault(1), model.fault(1));
    }

    /** Mostly a front on which something goes on. */
    private boolean setUp() {
        int places = model.count(0);
        boolean good = true;
        for (int k = to(5); k > 0 && good && places > 0; k--) {
            int p = to(places);
            int n = 1 + to(8);
            good = due("put(" + p + ", " + n + ")", x.put(p, n), model.put(p, n));
        }
        if (places > 0 && to(5) != 0) {
            int n = 1 + to(places);
            long route = 0;
            for (int i = 0; i < n; i++) {
                route = route * 16 + to(places);
            }
            good = good && due("route(" + n + ", " + route + ")", x.route(n, route) ? 1 : 0, model.route(n, route) ? 1 : 0);
        }
        return good;
    }

    /** Whether everything that can be looked at is the same. */
    private boolean same() {
        boolean good = true;
        for (int what = -1; what < 11 && good; what++) {
            good = due("sum(" + what + ")", x.sum(what), model.sum(what))
                    && due("count(" + what + ")", x.count(what), model.count(what));
        }
        for (int chair = 0; chair < model.count(1) && good; chair++) {
            for (int what = 0; what < 5 && good; what++) {
                good = due("look(" + chair + ", " + what + ")", x.look(chair, what), model.look(chair, what));
            }
        }
        for (int place = 0; place < model.count(0) && good; place++) {
            for (int what = 0; what < 5 && good; what++) {
                good = due("place(" + place + ", " + what + ")", x.place(place, what), model.place(place, what));
            }
            for (int what = 0; what < 3 && good; what++) {
                good = due("law(" + what + ", " + place + ")", x.law(what, place), model.law(what, place));
            }
        }
        return good;
    }

    // ---- texts

    private String makeText() {
        StringBuilder s = new StringBuilder();
        int places = to(12) == 0 ? 0 : 1 + to(5);
        names = "abcdefgh".substring(0, places);
        for (int i = 0; i < places; i++) {
            line(s, "place " + names.charAt(i) + " " + to(to(2) == 0 ? 5 : 100) + " " + to(to(2) == 0 ? 5 : 100)
                    + (to(3) == 0 ? " tide " + to(to(2) == 0 ? 12 : 96) : ""));
        }
        if (to(15) != 0) {
            line(s, "chairs " + to(to(3) == 0 ? 41 : 12));
        }
        for (int i = to(9); i > 0; i--) {
            line(s, "come " + to(to(4) == 0 ? 96 : 12) + " " + (1 + to(to(3) == 0 ? 20 : 5)));
        }
        int tick = to(10);
        for (int i = to(5); i > 0 && tick < 96; i--) {
            line(s, "sky " + tick + " " + to(3));
            tick += 1 + to(to(3) == 0 ? 40 : 6);
        }
        for (int i = to(3); i > 0 && places > 0; i--) {
            int from = to(to(3) == 0 ? 96 : 10);
            line(s, "band " + names.charAt(to(places)) + " " + from + " " + Math.min(95, from + to(12)));
        }
        String[] sets = {"price", "wage", "carry", "wets", "canvas", "seed"};
        int[] low = {0, 0, 1, 1, 0, 0};
        int[] high = {99, 99, 40, 9, 99, 99999};
        for (int i = 0; i < sets.length; i++) {
            if (to(2) == 0) {
                line(s, sets[i] + " " + (low[i] + to((to(3) == 0 ? high[i] : Math.min(9, high[i])) - low[i] + 1)));
            }
        }
        for (int i = to(5); i > 0; i--) {
            line(s, "sign " + (char) ('a' + i));
        }
        for (String kind : new String[] {"sit", "stay", "dodge"}) {
            if (to(3) != 0 && s.length() < 560) {
                line(s, "law " + kind + " " + law(kind));
            }
        }
        return s.length() > 700 ? s.substring(0, s.lastIndexOf(";", 699) + 1) : s.toString();
    }

    private void line(StringBuilder s, String line) {
        s.append(to(9) == 0 ? "\n" : to(9) == 0 ? "  " : "").append(line).append(";");
    }

    private String law(String kind) {
        switch (to(3)) {
            case 0:
                return kind.equals("sit") ? "view - far / 2 + music * 9 - taken" : kind.equals("stay") ? "1 + sun * 3 + view / 20"
                        : "40 + music * 30 - price";
            case 1:
                return "" + to(kind.equals("dodge") ? 110 : 12);
            default:
                return expr(3);
        }
    }

    private String expr(int depth) {
        String[] leaves = {"view", "far", "sun", "music", "taken", "free", "price", "tick", "0", "1", "2", "50", "9999"};
        if (depth == 0 || to(5) == 0) {
            return leaves[to(leaves.length)];
        }
        if (to(8) == 0) {
            return "(not " + expr(depth - 1) + ")";
        }
        String[] ops = {" or ", " and ", "<", "<=", "=", "<>", ">=", ">", "+", "-", "*", "/", "*", "-"};
        String op = ops[to(ops.length)];
        String inner = expr(depth - 1) + op + expr(depth - 1);
        // Mostly in brackets: without them two comparisons may stand side by side, which is a fault.
        boolean compares = op.contains("<") || op.contains(">") || op.contains("=");
        return to(2) == 0 || compares && to(20) != 0 ? "(" + inner + ")" : inner;
    }

    private String spoiled(String text) {
        StringBuilder s = new StringBuilder(text);
        String[] bits = {";", "(", ")", "<", ">", "=", "+", " not ", " and ", " or ", "<=", "< =", "<>", "> <", "place ",
            "tide 3", " 96 ", "999999999999", "0007", "#", "\t", "lettersx", "sixsix", "x", " price ", "law sit 1;",
            "law stay 1<2<3;", "law dodge (1<2)<3;", "((((((((1))))))))", "(((((((((1", "sign a;", "sign b;", "come 0 21;",
            "come 3 3;come 3 3;come 3 3;come 3 3;come 3 3;come 3 3;come 3 3;come 3 3;come 3 3;come 3 3;come 3 3;come 3 3;",
            "sky 1 1;sky 2 1;sky 3 1;sky 4 1;sky 5 1;sky 6 1;sky 7 1;sky 8 1;sky 9 1;", "band a 1 2;", "band q 1 2;",
            "wets 0;", "carry 0;", "place a 1 1;", "place zz 1 1;place y 1 1;place w 1 1;", "\u00e9", "law sit",
            "1+1+1+1+1+1+1+1+1+1+1+1+1+1+1+1+1+1+1+1+1+1+1+1+1+1+1+1+1+1+1+1+1+1+1+1+1;", "seed 100000;", "1+not 2"};
        for (int i = 1 + to(2); i > 0; i--) {
            String bit = bits[to(bits.length)];
            int at = to(3) == 0 ? s.length() : to(3) == 0 ? s.lastIndexOf(";") + 1 : to(s.length() + 1);
            if (to(5) == 0 && s.length() > 2) {
                s.deleteCharAt(to(s.length()));
            } else {
                s.insert(at, bit);
            }
        }
        return s.length() > 700 ? s.substring(0, 700) : s.toString();
    }

    // ---- calls

    private int arg(int n) {
        return to(12) == 0 ? ODD[to(ODD.length)] : to(Math.max(1, n));
    }

    private int place() {
        return arg(names.length() + (to(8) == 0 ? 1 : 0));
    }

    private int span() {
        int left = 96 - model.count(5);
        return to(12) == 0 ? ODD[to(ODD.length)] : to(3) == 0 ? to(left + 2) : Math.min(left, to(10));
    }

    private boolean one() {
        switch (to(13)) {
            case 0:
            case 1:
                return doPut();
            case 2:
                return to(3) == 0 ? doRoute() : doTicks();
            case 3:
                return to(5) != 0 ? doTicks() : same();
            case 4:
            case 5:
            case 6:
                return askState();
            case 7:
            case 8:
                return askRuns();
            case 9:
                return askOthers();
            case 10:
                return doBook();
            case 11:
                return askBook();
            default:
                return doBack();
        }
    }

    private boolean doPut() {
        int p = place();
        int n = arg(to(3) == 0 ? 41 : 6);
        return to(4) == 0 ? due("bring(" + p + ", " + n + ")", x.bring(p, n), model.bring(p, n))
                : due("put(" + p + ", " + n + ")", x.put(p, n), model.put(p, n));
    }

    private boolean doRoute() {
        int n = arg(to(4) == 0 ? 10 : 5);
        long places = to(3) == 0 ? random.nextLong() & 0x4444444444444444L : 0;
        for (int i = 0; i < 8 && !names.isEmpty(); i++) {
            places = places * 16 + to(names.length() + (to(12) == 0 ? 1 : 0));
        }
        return due("route(" + n + ", " + places + ")", x.route(n, places) ? 1 : 0, model.route(n, places) ? 1 : 0);
    }

    private boolean doTicks() {
        int n = to(3) == 0 ? span() : to(4);
        return due("ticks(" + n + ")", x.ticks(n), model.ticks(n));
    }

    /** More than can be undone, and then undone as far as it goes. */
    private boolean doMany() {
        boolean good = true;
        for (int k = to(26); k > 0 && good; k--) {
            good = to(3) == 0 ? doRoute() : doPut();
        }
        for (int k = to(26); k > 0 && good; k--) {
            good = due("undo()", x.undo(), model.undo());
        }
        return good && same();
    }

    private boolean askState() {
        int p = place();
        int what = arg(10);
        int chair = arg(model.count(1));
        switch (to(6)) {
            case 0:
                return due("sum(" + what + ")", x.sum(what), model.sum(what));
            case 1:
                return due("count(" + what + ")", x.count(what), model.count(what));
            case 2:
                return due("place(" + p + ", " + what % 6 + ")", x.place(p, what % 6), model.place(p, what % 6));
            case 3:
                return due("law(" + what % 4 + ", " + p + ")", x.law(what % 4, p), model.law(what % 4, p));
            case 4:
                int tick = arg(96);
                return due("sky(" + tick + ")", x.sky(tick), model.sky(tick));
            default:
                return due("look(" + chair + ", " + what % 6 + ")", looked(x, chair, what % 6), looked(model, chair, what % 6));
        }
    }

    private static long looked(SkyChairs x, int chair, int what) {
        try {
            return x.look(chair, what);
        } catch (IndexOutOfBoundsException e) {
            return e.getClass() == IndexOutOfBoundsException.class ? -1000 : -2000;
        } catch (NoSuchElementException e) {
            return -1001;
        }
    }

    private static long looked(Model x, int chair, int what) {
        try {
            return x.look(chair, what);
        } catch (IndexOutOfBoundsException e) {
            return -1000;
        } catch (NoSuchElementException e) {
            return -1001;
        }
    }

    private boolean askRuns() {
        int n = span();
        int what = to(9) == 0 ? arg(3) : to(2);
        int p = place();
        switch (to(7)) {
            case 0:
                return due("run(" + n + ")", x.run(n), model.run(n));
            case 1:
                return due("many(" + p + ", " + n + ", " + what + ")", x.many(p, n, what), model.many(p, n, what));
            case 2:
                return due("when(" + n + ", " + what + ")", x.when(n, what), model.when(n, what));
            case 3:
                return due("way(" + n + ", " + what + ")", x.way(n, what), model.way(n, what));
            case 4:
                return due("best(" + n + ", " + what + ")", x.best(n, what), model.best(n, what));
            case 5:
                return due("second(" + n + ")", x.second(n), model.second(n));
            default:
                what = arg(4);
                return due("gather(" + what + ")", x.gather(what), model.gather(what));
        }
    }

    private boolean askOthers() {
        int n = span();
        if (to(3) == 0) {
            int seed = to(9) == 0 ? ODD[to(ODD.length)] : random.nextInt();
            int w = to(5) == 0 ? random.nextInt() : model.run(Math.max(0, Math.min(n, 96 - model.count(5)))) + to(9) - 4;
            return due("chance(" + seed + ", " + n + ", " + w + ")", x.chance(seed, n, w), model.chance(seed, n, w));
        }
        int what = arg(7);
        int i = what == 3 ? place() : what == 5 ? arg(model.count(2)) : to(5) == 0 ? arg(2) : 0;
        return due("tried(" + what + ", " + i + ", " + n + ")", x.tried(what, i, n), model.tried(what, i, n));
    }

    private boolean doBook() {
        if (to(3) == 0) {
            int day = arg(model.count(6));
            return due("strike(" + day + ")", x.strike(day), model.strike(day));
        }
        if (to(6) == 0) {
            int n = to(3) == 0 ? -1 : arg(model.count(6) + 2);
            return due("known(" + n + ")", x.known(n) ? 1 : 0, model.known(n) ? 1 : 0);
        }
        boolean good = true;
        for (int k = to(5); k >= 0 && good; k--) {
            int signs = to(6) == 0 ? random.nextInt() >> to(32) : to(1 << model.count(3));
            boolean rained = random.nextBoolean();
            good = due("day(" + signs + ", " + rained + ")", x.day(signs, rained), model.day(signs, rained));
        }
        return good;
    }

    private boolean askBook() {
        int one = arg(model.count(3));
        int other = arg(model.count(3));
        switch (to(5)) {
            case 0:
                return due("right(" + one + ")", x.right(one), model.right(one));
            case 1:
                return due("tells()", x.tells(), model.tells());
            case 2:
                int how = arg(2);
                return due("joined(" + one + ", " + other + ", " + how + ")", x.joined(one, other, how),
                        model.joined(one, other, how));
            case 3:
                int what = arg(3);
                int letters = to(2) == 0 ? Check.letters("" + (char) ('a' + to(6))) : random.nextInt();
                return due("named(" + what + ", " + letters + ")", x.named(what, letters), model.named(what, letters));
            default:
                int a = arg(1001);
                int b = arg(1001);
                int m = to(8) == 0 ? 0 : arg(Math.max(1, Math.min(a, b)) / 4 + 2);
                int w = arg(2);
                return due("dodgers(" + a + ", " + b + ", " + m + ", " + w + ")", x.dodgers(a, b, m, w),
                        model.dodgers(a, b, m, w));
        }
    }

    private boolean doBack() {
        switch (to(5)) {
            case 0:
                return due("keep()", x.keep(), model.keep());
            case 1:
                return due("back()", x.back(), model.back());
            case 2:
                return doMany();
            default:
                return due("undo()", x.undo(), model.undo());
        }
    }
}
