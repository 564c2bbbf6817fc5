import java.util.NoSuchElementException;

/** Each promise of the document by hand: ordinary inputs, the edges that it names, wrong inputs. */
public final class PromiseTest {
    private static final int NONE = SkyChairs.NONE;
    private static final int NO = Integer.MIN_VALUE;
    private static final long ERROR = Long.MIN_VALUE;

    private PromiseTest() {
    }

    public static void main(String[] args) {
        newObject();
        feed();
        text();
        textAnew();
        faultsOfTokens();
        faultsOfMuch();
        faultsOfTwiceAndUntold();
        faultCall();
        named();
        look();
        place();
        sky();
        lawNames();
        lawValues();
        lawErrors();
        put();
        bring();
        route();
        ticks();
        tide();
        rain();
        come();
        stay();
        round();
        sum();
        run();
        many();
        when();
        way();
        best();
        second();
        gather();
        bookDays();
        bookStrikes();
        knownBy();
        rightTellsJoined();
        dodgers();
        tried();
        chance();
        undo();
        images();
        count();
        Check.end();
    }

    private static void due(String call, long got, long want) {
        Check.due(call, got, want);
    }

    private static void due(String call, boolean got, boolean want) {
        Check.due(call, got, want);
    }

    private static SkyChairs told(String text) {
        return Check.told(text);
    }

    private static String repeat(String what, int n) {
        return what.repeat(n);
    }

    // Promise 1
    private static void newObject() {
        SkyChairs x = new SkyChairs();
        for (int what = 0; what < 10; what++) {
            due("new count(" + what + ")", x.count(what), 0);
        }
        for (int what = 0; what < 8; what++) {
            due("new sum(" + what + ")", x.sum(what), 0);
        }
        due("new sky(95)", x.sky(95), 0);
        due("new fault(0)", x.fault(0), 0);
        due("new fault(1)", x.fault(1), NONE);
        due("new text(0)", x.text(0), 0);
        due("new text(1)", x.text(1), -2);
        due("new undo()", x.undo(), NONE);
        due("new back()", x.back(), NONE);
    }

    // Promise 2
    private static void feed() {
        SkyChairs x = new SkyChairs();
        for (int i = 1; i <= 35; i++) {
            due("feed " + i, x.feed(0x70726963, 0x65203937, 0x3b202020, 0x20202020, 0x20202020), 20 * i);
        }
        due("feed beyond 700", x.feed(0, 0, 0, 0, 0), NONE);
        due("feed beyond 700 again", x.feed(0, 0, 0, 0, 0), NONE);
        due("the highest byte first", x.text(20), 1);
        due("the tape is empty then", x.feed(0, 0, 0, 0, 0), 20);
        due("bytes of 0 are no tokens", x.text(20), NONE);
        due("at the first", x.fault(1), 0);
        x.feed(-1, -1, -1, -1, -1);
        due("bytes of 255 are no tokens", x.text(20), NONE);
        due("fault", x.fault(0), 1);
    }

    // Promise 3
    private static void text() {
        SkyChairs x = told("place a 1 2;chairs 3;sign s;come 0 1;");
        due("lines of a text told anew", Check.tell(x, "place b 3 4 ;\n chairs\n5;"), 2);
        due("its places", x.named(0, Check.letters("b")), 0);
        due("not those ahead", x.named(0, Check.letters("a")), NONE);
        due("its signs", x.count(3), 0);
        due("its comes", x.count(2), 0);
        x.put(0, 2);
        x.route(1, 0);
        x.ticks(4);
        x.put(0, 1);
        x.keep();
        Check.feed(x, "chairs 9;");
        due("text(-1)", x.text(-1), -2);
        due("text(21)", x.text(21), -2);
        due("the tape stays", x.text(8), NONE);
        due("more must come", x.fault(1), 8);
        due("all stays: tick", x.count(5), 4);
        due("all stays: chairs", x.count(1), 5);
        due("all stays: undo", x.count(8), 1);
        due("all stays: image", x.back(), 4);
        x.put(0, 1);
        due("told again", Check.tell(x, "place b 3 4;chairs 5;sign s;"), 3);
        due("tick 0 is next", x.count(5), 0);
        due("all stacked", x.count(9), 5);
        due("no route", x.second(1), NO);
        due("nothing to undo", x.undo(), NONE);
        due("no image", x.back(), NONE);
        x.day(1, true);
        x.known(0);
        Check.tell(x, "sign s;");
        due("an empty book", x.count(6), 0);
        x.day(1, true);
        due("all known", x.right(0), 1);
        Check.feed(x, "price 12;");
        due("cut within a number", x.text(7), NONE);
        due("at the length", x.fault(1), 7);
        Check.feed(x, "sign aband;");
        due("cut within a word", x.text(6), NONE);
        due("at that length", x.fault(1), 6);
        due("an empty text", Check.tell(x, ""), 0);
        due("blanks alone", Check.tell(x, " \n \n"), 0);
        due("no blanks needed beside digits and marks", Check.tell(x, "place a1 2tide3;law sit(view)+1<2and not far;"), 2);
        due("tide of it", x.place(0, 2), 3);
        due("digits with 0 ahead", Check.tell(x, "price 0000000000000000000000099;"), 1);
    }

    // Promise 3: nothing of a busy front is left
    private static void textAnew() {
        String text = "place a 1 2;place b 2 2 tide 4;chairs 6;come 0 5;sky 2 2;sky 3 0;law stay 9;law dodge 50;";
        SkyChairs x = told(text);
        x.put(0, 2);
        x.put(1, 2);
        x.route(1, 0);
        x.ticks(5);
        due("wet", x.look(0, 2), 1);
        due("lost", x.sum(5), 2);
        Check.tell(x, text);
        for (int chair = 0; chair < 6; chair++) {
            chair(x, chair, 0, NONE, 0, NONE, 0);
        }
        sums(x, 0, 0, 0, 0, 0, 0, 0, 0);
        for (int place = 0; place < 2; place++) {
            due("out", x.place(place, 3), 0);
            due("sat in", x.place(place, 4), 0);
        }
        due("carry", x.put(0, 6), 6);
        due("no route", x.run(96), 0);
        SkyChairs y = new SkyChairs();
        Check.tell(y, "law sit 1 + (2 * (");
        Check.tell(y, "place a 1 1;law sit not 0 or 1;");
        due("nothing of a faulty law is left", y.law(0, 0), 1);
    }

    // Promise 4, fault 1
    private static void faultsOfTokens() {
        Check.fault(";", 1, 0);
        Check.fault("price 1;;", 1, 8);
        Check.fault("price 1", 1, 7);
        Check.fault("price 1  ", 1, 9);
        Check.fault("price", 1, 5);
        Check.fault("price 1 2;", 1, 8);
        Check.fault("price\t1;", 1, 5);
        Check.fault("Price 1;", 1, 0);
        Check.fault("prices 1;", 1, 0);
        Check.fault("tide 1;", 1, 0);
        Check.fault("place abcdefg 1 1;", 1, 6);
        Check.fault("place price 1 1;", 1, 6);
        Check.fault("place not 1 1;", 1, 6);
        Check.fault("place 1 1 1;", 1, 6);
        Check.fault("place a 1;", 1, 9);
        Check.fault("place a 1 1 tide;", 1, 16);
        Check.fault("place a 1 1 tied 3;", 1, 12);
        Check.fault("band view 1 1;", 1, 5);
        Check.fault("sign law;", 1, 5);
        Check.fault("sky 1;", 1, 5);
        Check.fault("come 1;", 1, 6);
        Check.fault("law go 1;", 1, 4);
        Check.fault("law sit 1 1;", 1, 10);
        Check.fault("law sit 1 not 1;", 1, 10);
        Check.fault("law sit 1 + not 1;", 1, 12);
        Check.fault("law sit 1 < not 1;", 1, 12);
        Check.fault("law sit 1 < 2 < 3;", 1, 14);
        Check.fault("law sit 1 < 2 + 1 = 3;", 1, 18);
        Check.fault("law sit 1 < = 2;", 1, 12);
        Check.fault("law sit 1 => 2;", 1, 11);
        Check.fault("law sit 1 >< 2;", 1, 11);
        Check.fault("law sit 1 <>= 2;", 1, 12);
        Check.fault("law sit - 1;", 1, 8);
        Check.fault("law sit ();", 1, 9);
        Check.fault("law sit (1;", 1, 10);
        Check.fault("law sit 1);", 1, 9);
        Check.fault("law sit (1", 1, 10);
        Check.fault("law sit 1 and;", 1, 13);
        Check.fault("law sit tide;", 1, 8);
        Check.fault("law sit views;", 1, 8);
        Check.fault("place a 100 0;place", 2, 8);
        told("place abcdef 1 1;band abcdef 0 95;");
        told("law sit not not 1 < 2 and not (1 < 2) = 1 or 3 >= 2;law stay (1<2)<(3<>4);");
    }

    // Promise 4, fault 2
    private static void faultsOfMuch() {
        String places = "place a 0 0;place b 99 99;place c 0 0 tide 0;place d 0 0 tide 95;place e 0 0;";
        told(places);
        Check.fault(places + "place a", 2, places.length());
        String comes = repeat("come 95 20;", 16);
        told(comes);
        Check.fault(comes + "come", 2, comes.length());
        StringBuilder skies = new StringBuilder();
        for (int i = 0; i < 12; i++) {
            skies.append("sky ").append(i).append(" 2;");
        }
        told(skies.toString());
        Check.fault(skies + "sky 0", 2, skies.length());
        String bands = "place a 0 0;band a 0 0;band a 0 95;";
        told(bands);
        Check.fault(bands + "band", 2, bands.length());
        String signs = "sign a;sign b;sign c;sign d;";
        told(signs);
        Check.fault(signs + "sign a", 2, signs.length());
        told("chairs 40;price 99;wage 99;carry 40;wets 9;canvas 99;seed 99999;");
        told("chairs 0;price 0;wage 0;carry 1;wets 1;canvas 0;seed 0;");
        Check.fault("wage 100;", 2, 5);
        Check.fault("place a 1 1 tide 96;", 2, 17);
        Check.fault("come 96 1;", 2, 5);
        Check.fault("come 1 0;", 2, 7);
        Check.fault("come 1 21;", 2, 7);
        Check.fault("carry 41;", 2, 6);
        Check.fault("wets 0;", 2, 5);
        Check.fault("sky 96 0;", 2, 4);
        Check.fault("place a 0 0;band a 96 96;", 2, 19);
        Check.fault("place a 0 0;band a 0 96;", 2, 21);
        Check.fault("price 18446744073709551617;", 2, 6);
        Check.fault("law sit 10000;", 2, 8);
        told("law sit 9999;");
        told("law sit ((((((((1))))))))+((((((((1))))))));law stay ((((((((1))))))));");
        Check.fault("law sit (1)+(((((((((1", 2, 20);
    }

    // Promise 4, faults 3 and 4; what is told right up to the limit of knots
    private static void faultsOfTwiceAndUntold() {
        String[] words = {"chairs", "price", "wage", "carry", "wets", "canvas", "seed"};
        for (String word : words) {
            String line = word + " 1;";
            Check.fault(line + line, 3, line.length());
        }
        told("place a 1 1;sign a;");
        Check.fault("place a 1 1;place b 1 1;place a 1 1;", 3, 30);
        Check.fault("law stay 1;law stay", 3, 15);
        Check.fault("sky 5 1;sky 4 1;sky 5", 3, 20);
        Check.fault("band a 1 1;place a 1 1;", 4, 5);
        Check.fault("sign a;band a 1 1;", 4, 12);
        Check.fault("band abcdefg 1 1;", 1, 5);
        String all = "law sit 1" + repeat("+1", 31) + ";";
        String more = "law stay not";
        SkyChairs x = told("place a 1 1;" + all + "law stay 7;");
        due("64 knots", x.count(4), 64);
        due("the first law of them", x.law(0, 0), 32);
        due("the last knot", x.law(1, 0), 7);
        SkyChairs y = told("place a 1 1;law sit " + repeat("not ", 31) + repeat("(", 8) + repeat("not ", 32) + "1"
                + repeat(")", 8) + ";");
        due("all that can wait for its right side", y.law(0, 0), 0);
        Check.fault(all + more + " 1;", 2, all.length() + more.length() + 1);
        Check.fault(all + "law stay 1+", 2, all.length() + 10);
        Check.fault(all + "law stay 1)", 1, all.length() + 10);
    }

    // Promise 4
    private static void faultCall() {
        SkyChairs x = new SkyChairs();
        Check.tell(x, "chairs 41;");
        due("fault(0)", x.fault(0), 2);
        due("fault(1)", x.fault(1), 7);
        due("fault(2)", x.fault(2), NONE);
        due("fault(-1)", x.fault(-1), NONE);
        x.text(5);
        due("fault(0) behind a text of -2", x.fault(0), 2);
        Check.tell(x, "chairs 4;");
        due("fault(0) without", x.fault(0), 0);
        due("fault(1) without", x.fault(1), NONE);
    }

    // Promise 5
    private static void named() {
        SkyChairs x = told("place a 1 1;place abcdef 1 1;place zz 1 1;sign zz;sign a;");
        due("named a", x.named(0, Check.letters("a")), 0);
        due("named abcdef", x.named(0, Check.letters("abcdef")), 1);
        due("named abcde", x.named(0, Check.letters("abcde")), NONE);
        due("named zz", x.named(0, Check.letters("zz")), 2);
        due("sign zz", x.named(1, Check.letters("zz")), 0);
        due("sign a", x.named(1, Check.letters("a")), 1);
        due("no such what", x.named(2, Check.letters("a")), NONE);
        due("no such what below", x.named(-1, Check.letters("a")), NONE);
        due("no letters", x.named(0, 0), NONE);
        due("more than thirty bits", x.named(0, Check.letters("a") | 1 << 30), NONE);
        due("low letters", x.named(0, 1), NONE);
    }

    private static String looked(SkyChairs x, int chair, int what) {
        try {
            return "" + x.look(chair, what);
        } catch (IndexOutOfBoundsException e) {
            return e.getClass() == IndexOutOfBoundsException.class ? "index" : "machine";
        } catch (NoSuchElementException e) {
            return "element";
        }
    }

    private static void chair(SkyChairs x, int chair, int state, int place, int wets, int till, int paid) {
        String want = state + " " + place + " " + wets + " " + till + " " + paid;
        String got = looked(x, chair, 0) + " " + looked(x, chair, 1) + " " + looked(x, chair, 2) + " "
                + looked(x, chair, 3) + " " + looked(x, chair, 4);
        due("chair " + chair + " is " + got + ", due is " + want, got.equals(want), true);
    }

    // Promise 6
    private static void look() {
        SkyChairs x = told("place a 1 1;chairs 2;come 0 1;sky 1 2;sky 2 0;law stay 9;");
        due("chair -1", looked(x, -1, 0).equals("index"), true);
        due("chair 2", looked(x, 2, 0).equals("index"), true);
        due("what 5", looked(x, 0, 5).equals("element"), true);
        due("what -1", looked(x, 1, -1).equals("element"), true);
        due("both wrong", looked(x, 2, 5).equals("index"), true);
        chair(x, 0, 0, NONE, 0, NONE, 0);
        x.put(0, 2);
        x.route(1, 0);
        chair(x, 0, 1, 0, 0, NONE, 0);
        x.ticks(1);
        chair(x, 0, 2, 0, 0, 9, 1);
        chair(x, 1, 1, 0, 0, NONE, 0);
        x.ticks(1);
        chair(x, 0, 1, 0, 1, NONE, 0);
        x.bring(0, 1);
        chair(x, 0, 0, NONE, 1, NONE, 0);
    }

    // Promise 7
    private static void place() {
        SkyChairs x = told("place a 7 8;place b 9 10 tide 0;chairs 5;come 0 2;");
        x.put(0, 3);
        due("view", x.place(0, 0), 7);
        due("far", x.place(1, 1), 10);
        due("no tide", x.place(0, 2), NONE);
        due("tide 0", x.place(1, 2), 0);
        due("out", x.place(0, 3), 3);
        x.ticks(1);
        due("out then", x.place(0, 3), 1);
        due("sat in", x.place(0, 4), 2);
        due("no such place", x.place(2, 0), NONE);
        due("no such place below", x.place(-1, 0), NONE);
        due("no such what", x.place(0, 5), NONE);
        due("no such what below", x.place(0, -1), NONE);
    }

    // Promise 8
    private static void sky() {
        SkyChairs x = told("sky 50 0;sky 10 2;sky 20 1;sky 95 2;");
        int[][] skies = {{-1, NONE}, {0, 0}, {9, 0}, {10, 2}, {19, 2}, {20, 1}, {49, 1}, {50, 0}, {94, 0}, {95, 2}, {96, NONE}};
        for (int[] s : skies) {
            due("sky(" + s[0] + ")", x.sky(s[0]), s[1]);
        }
    }

    private static long law(String formula) {
        return told("place a 30 7;law sit " + formula + ";").law(0, 0);
    }

    private static void value(String formula, long want) {
        due("law sit " + formula, law(formula), want);
    }

    // Promise 9: names
    private static void lawNames() {
        SkyChairs x = told("place a 30 7;place b 31 8;chairs 5;price 6;come 2 1;sky 1 1;sky 2 0;sky 5 2;band b 1 2;"
                + "law sit view*100+far;law stay sun*10+music;law dodge tick*1000+taken*100+free*10+price;");
        x.put(1, 3);
        due("view, far", x.law(0, 1), 3108);
        due("sun", x.law(1, 1), 10);
        due("taken, free, price", x.law(2, 1), 36);
        x.ticks(1);
        due("cloud, music", x.law(1, 1), 1);
        due("no music there", x.law(1, 0), 0);
        x.ticks(1);
        due("sun, music to the last tick", x.law(1, 1), 11);
        x.ticks(1);
        due("music no more", x.law(1, 1), 10);
        due("tick, taken", x.law(2, 1), 3126);
        x.ticks(2);
        due("rain is no sun", x.law(1, 1), 0);
        x.ticks(90);
        due("tick 95", x.law(0, 0), 3007);
        x.ticks(1);
        due("no tick is next", x.law(0, 0), ERROR);
        due("no such law", told("place a 1 1;law sit 1;").law(1, 0), ERROR);
        due("no such what", told("place a 1 1;law dodge 1;").law(3, 0), ERROR);
        due("no such what below", told("place a 1 1;law sit 1;").law(-1, 0), ERROR);
        due("no such place", told("place a 1 1;law sit 1;").law(0, 1), ERROR);
        due("no such place below", told("place a 1 1;law sit 1;").law(0, -1), ERROR);
    }

    // Promise 9: values
    private static void lawValues() {
        value("1+2*3-4", 3);
        value("20-5-3", 12);
        value("100/5/3", 6);
        value("100/7*7", 98);
        value("(0-7)/2", -3);
        value("7/(0-2)", -3);
        value("1<2", 1);
        value("2<2", 0);
        value("2<=2", 1);
        value("3<=2", 0);
        value("2=2", 1);
        value("2=3", 0);
        value("2<>2", 0);
        value("2<>3", 1);
        value("2>=2", 1);
        value("1>=2", 0);
        value("3>2", 1);
        value("2>2", 0);
        value("1+1=2", 1);
        value("not 5", 0);
        value("not 0", 1);
        value("not not 5", 1);
        value("not 1 = 0", 1);
        value("not 0 and 0", 0);
        value("5 and 7", 1);
        value("5 and 0", 0);
        value("0 or 9", 1);
        value("0 or 0", 0);
        value("1 or 1 and 0", 1);
        value("(1 or 1) and 0", 0);
        value("0 and 0 or 1", 1);
        value("not 1 or 1", 1);
        value("1 < 2 and 3 < 4", 1);
        value("(1<2)<3", 1);
        value("(1 or 0) + 5", 6);
    }

    // Promise 9: errors
    private static void lawErrors() {
        value("1/0", ERROR);
        value("1/(view-30)", ERROR);
        value("1 or 1/0", ERROR);
        value("0 and 1/0", ERROR);
        value("1000*1000*1000*1000", 1000000000000L);
        value("1000*1000*1000*999+1000*1000*1000", 1000000000000L);
        value("0-1000*1000*1000*999-1000*1000*1000", -1000000000000L);
        value("1000*1000*1000*1000+1", ERROR);
        value("1000*1000*1000*1000+1-1", ERROR);
        value("0-1000*1000*1000*1000", -1000000000000L);
        value("0-1000*1000*1000*1000-1", ERROR);
        value("1000*1000*1000*1000*(0-1)", -1000000000000L);
        value("1000*1000*1000*1001", ERROR);
        value("(1000*1000*1000*1000)*(1000*1000*1000*1000)", ERROR);
        value("(0-1000*1000*1000*1000)*(1000*1000*1000*1000)", ERROR);
        value("0*(1000*1000*1000*1000)", 0);
        value("1000*1000*1000*1000 > 9999*9999*9999", 1);
        value("9999*9999*9999*9999 > 1", ERROR);
    }

    // Promise 10
    private static void put() {
        SkyChairs x = told("place a 1 1;place b 1 1 tide 0;chairs 8;carry 5;");
        due("no such place", x.put(2, 1), NONE);
        due("no such place below", x.put(-1, 1), NONE);
        due("n below 0", x.put(0, -1), NONE);
        due("n 41", x.put(0, 41), NONE);
        due("n 0", x.put(0, 0), 0);
        due("put(0, 2)", x.put(0, 2), 2);
        chair(x, 1, 1, 0, 0, NONE, 0);
        chair(x, 2, 0, NONE, 0, NONE, 0);
        due("carry in all, under water, too", x.put(1, 40), 3);
        chair(x, 4, 1, 1, 0, NONE, 0);
        due("no more", x.put(0, 1), 0);
        x.ticks(0);
        due("no more on the same tick", x.put(0, 1), 0);
        x.ticks(1);
        due("lost by the tide", x.sum(5), 3);
        due("carry anew, all stacked", x.put(0, 40), 3);
        due("bring shares carry", x.bring(0, 40), 2);
        due("nothing left to carry", x.put(0, 1), 0);
        x.ticks(95);
        due("behind the last tick", x.put(0, 1), 1);
    }

    // Promise 11
    private static void bring() {
        SkyChairs x = told("place a 1 1;place b 2 1;chairs 8;carry 8;come 0 1;");
        x.put(0, 3);
        x.put(1, 3);
        due("no such place", x.bring(2, 1), NONE);
        due("n below 0", x.bring(0, -1), NONE);
        due("n 41", x.bring(0, 41), NONE);
        due("n 0", x.bring(0, 0), 0);
        due("from b, the least first", x.bring(1, 1), 1);
        chair(x, 3, 0, NONE, 0, NONE, 0);
        chair(x, 4, 1, 1, 0, NONE, 0);
        due("carry", x.bring(0, 40), 1);
        x.ticks(1);
        due("one sits", x.place(1, 4), 1);
        due("those out alone", x.bring(1, 40), 1);
        due("stacked", x.count(9), 5);
        due("none there", x.bring(1, 40), 0);
        due("the others", x.bring(0, 40), 2);
    }

    // Promise 12
    private static void route() {
        SkyChairs x = told("place a 1 1;place b 1 1;chairs 1;");
        due("n 9", x.route(9, 0), false);
        due("n -1", x.route(-1, 0), false);
        due("place 2", x.route(2, 0x20), false);
        due("place 15", x.route(1, 15), false);
        due("none was told", x.second(0), NO);
        due("nothing to undo", x.count(8), 0);
        due("eight", x.route(8, 0x10101010L), true);
        due("a route", x.second(0), 0);
        due("eight, the last is none", x.route(8, 0x80101010L), false);
        due("none", x.route(0, 7), true);
        due("no route", x.second(0), NO);
    }

    // Promise 13
    private static void ticks() {
        SkyChairs x = told("place a 1 1;");
        due("ticks(-1)", x.ticks(-1), NONE);
        due("ticks(97)", x.ticks(97), NONE);
        due("ticks(max)", x.ticks(Integer.MAX_VALUE), NONE);
        due("ticks(0)", x.ticks(0), 0);
        due("ticks(90)", x.ticks(90), 90);
        due("ticks(7)", x.ticks(7), NONE);
        due("none went by", x.count(5), 90);
        due("ticks(6)", x.ticks(6), 96);
        due("ticks(0) behind the last", x.ticks(0), 96);
        due("ticks(1) behind the last", x.ticks(1), NONE);
    }

    private static void sums(SkyChairs x, int... want) {
        for (int i = 0; i < want.length; i++) {
            due("sum(" + i + ")", x.sum(i), want[i]);
        }
    }

    // Promise 13: the tide
    private static void tide() {
        SkyChairs x = told("place a 1 1 tide 2;place b 0 1;chairs 4;come 0 2;come 1 1;");
        x.put(0, 3);
        x.route(2, 0x10);
        x.ticks(2);
        sums(x, 4, 2, 0, 0, 0, 0, 0, 4);
        x.ticks(1);
        sums(x, 4, 2, 0, 1, 0, 3, 0, -11);
        chair(x, 0, 3, NONE, 0, NONE, 0);
        chair(x, 3, 0, NONE, 0, NONE, 0);
        x.put(0, 1);
        x.ticks(1);
        due("put under water", x.sum(5), 4);
        due("missed no more", x.sum(3), 1);
    }

    // Promise 13: the rain
    private static void rain() {
        SkyChairs x = told("place a 1 1;chairs 5;wets 2;canvas 7;come 0 2;come 1 3;come 2 1;come 3 1;sky 1 2;sky 2 1;sky 3 2;sky 4 0;");
        x.put(0, 3);
        x.ticks(1);
        x.ticks(1);
        sums(x, 0, 0, 0, 2, 0, 0, 0, 0);
        chair(x, 0, 1, 0, 1, NONE, 0);
        chair(x, 2, 1, 0, 1, NONE, 0);
        chair(x, 3, 0, NONE, 0, NONE, 0);
        x.put(0, 1);
        x.ticks(2);
        sums(x, 0, 0, 0, 3, 0, 3, 3, -21);
        chair(x, 0, 3, NONE, 2, NONE, 0);
        chair(x, 3, 1, 0, 1, NONE, 0);
        chair(x, 4, 0, NONE, 0, NONE, 0);
    }

    // Promise 13: those who come
    private static void come() {
        SkyChairs x = told("place a 5 1;place b 9 1;place c 9 2;chairs 6;come 0 2;come 1 2;come 0 1;");
        x.put(0, 1);
        x.put(1, 1);
        x.put(2, 2);
        x.ticks(1);
        chair(x, 1, 2, 1, 0, 8, 0);
        chair(x, 2, 2, 2, 0, 8, 0);
        chair(x, 3, 2, 2, 0, 8, 0);
        chair(x, 0, 1, 0, 0, NONE, 0);
        x.ticks(1);
        chair(x, 0, 2, 0, 0, 9, 0);
        due("on the wall", x.sum(4), 1);
        x.ticks(7);
        sums(x, 0, 0, 0, 3, 1, 0, 0, 0);
        chair(x, 0, 2, 0, 0, 9, 0);
        x.ticks(1);
        due("gone on its tick", x.sum(3), 4);
        SkyChairs y = told("place a 5 1;place b 9 1;chairs 4;come 0 1;law sit far / (view - 5) - 1;");
        y.put(1, 1);
        y.put(0, 1);
        due("an error", y.law(0, 0), ERROR);
        y.ticks(1);
        due("0 with an error is more than -1", y.place(0, 4), 1);
        SkyChairs v = told("place a 9 1;place b 5 1;chairs 4;come 0 1;law sit far / (view - 5) * 0;");
        v.put(0, 1);
        v.put(1, 1);
        v.ticks(1);
        due("0 with an error is no more than 0", v.place(0, 4), 1);
        SkyChairs z = told("place a 1 1;place b 1 1;chairs 4;come 0 3;law sit 0 - taken;");
        z.put(0, 2);
        z.put(1, 2);
        z.ticks(1);
        due("one by one", z.place(0, 4), 2);
        due("and the other", z.place(1, 4), 1);
    }

    private static int till(String law) {
        SkyChairs x = told("place a 7 3;chairs 3;come 2 1;law stay " + law + ";");
        x.put(0, 3);
        x.ticks(3);
        return x.look(0, 3);
    }

    // Promise 13: how long
    private static void stay() {
        due("stay 4", till("4"), 6);
        due("stay 0", till("0"), 3);
        due("stay below 0", till("0-50"), 3);
        due("stay 95", till("95"), 97);
        due("stay 96", till("96"), 97);
        due("stay with an error", till("1/0"), 10);
        due("free ahead of that", till("free"), 5);
        due("taken ahead of that", till("taken+5"), 7);
        due("tick", till("tick*5"), 12);
        SkyChairs x = told("place a 7 3;chairs 1;come 0 1;come 1 1;law stay 1;");
        x.put(0, 1);
        x.ticks(2);
        due("one goes ahead of the next that comes", x.sum(4), 0);
        due("and is missed", x.sum(3), 1);
    }

    // Promise 13: the round
    private static void round() {
        SkyChairs x = told("place a 7 3;place b 8 3;chairs 4;price 5;come 0 4;law stay 95;");
        x.put(0, 2);
        x.put(1, 2);
        x.ticks(1);
        x.route(3, 0x001);
        x.ticks(1);
        sums(x, 10, 2, 0, 0);
        due("b has paid", x.look(2, 4), 1);
        due("a has not", x.look(0, 4), 0);
        x.ticks(1);
        sums(x, 20, 4, 0, 0);
        x.ticks(10);
        sums(x, 20, 4, 0, 0);
        // The first numbers by seed 0 modulo 100 are 0, 68, 88, 17, 98, 27, 45.
        SkyChairs y = told("place a 7 3;chairs 5;come 0 5;law dodge 28;law stay 95;");
        y.put(0, 5);
        y.route(1, 0);
        y.ticks(1);
        sums(y, 6, 3, 2, 0);
        int[] paid = {0, 1, 1, 0, 1};
        for (int chair = 0; chair < 5; chair++) {
            due("paid " + chair, y.look(chair, 4), paid[chair]);
        }
        y.ticks(1);
        sums(y, 8, 4, 3, 0);
        due("dodges again", y.look(0, 4), 0);
        due("pays then", y.look(3, 4), 1);
        SkyChairs z = told("place a 7 3;chairs 1;come 0 1;law dodge 0;");
        z.put(0, 1);
        z.route(1, 0);
        z.ticks(1);
        due("0 isn't below 0", z.sum(1), 1);
        SkyChairs v = told("place a 7 3;chairs 40;carry 40;come 0 20;come 0 20;law dodge 100;");
        v.put(0, 40);
        v.route(1, 0);
        v.ticks(1);
        due("all dodge", v.sum(2), 40);
        SkyChairs w = told("place a 7 3;chairs 40;carry 40;come 0 20;come 0 20;law dodge 100/0;");
        w.put(0, 40);
        w.route(1, 0);
        w.ticks(1);
        due("none with an error", w.sum(2), 0);
    }

    // Promise 14
    private static void sum() {
        SkyChairs x = told("place a 1 1;");
        due("sum(-1)", x.sum(-1), NONE);
        due("sum(8)", x.sum(8), NONE);
        due("sum(min)", x.sum(NO), NONE);
        SkyChairs y = told("place a 1 1 tide 3;chairs 4;canvas 9;price 7;come 0 1;come 1 2;seed 5;");
        y.put(0, 2);
        y.route(1, 0);
        y.ticks(96);
        sums(y, 14, 2, 0, 0, 1, 2, 0, -4);
    }

    // Promise 15
    private static void run() {
        SkyChairs x = told("place a 1 1;chairs 4;price 7;come 0 1;come 5 2;law dodge 50;");
        x.put(0, 2);
        x.route(1, 0);
        due("run(-1)", x.run(-1), NO);
        due("run(97)", x.run(97), NO);
        due("run(0)", x.run(0), 0);
        int six = x.run(6);
        due("nothing is changed", x.run(6), six);
        due("no tick went by", x.count(5), 0);
        x.ticks(4);
        int coin = x.sum(0);
        due("run(0) has what there was", x.run(0), coin);
        due("run(93)", x.run(93), NO);
        int two = x.run(2);
        due("the same numbers", two, six);
        x.ticks(2);
        due("as the ticks had it", x.sum(7), six);
    }

    // Promise 16
    private static void many() {
        SkyChairs x = told("place a 5 1;place b 1 1 tide 1;chairs 9;carry 2;price 3;canvas 1;come 0 4;");
        x.route(2, 0x10);
        x.put(0, 1);
        due("no such place", x.many(2, 3, 0), NO);
        due("no such n", x.many(0, 97, 0), NO);
        due("no such what", x.many(0, 3, 2), NO);
        due("no such what below", x.many(0, 3, -1), NO);
        due("whatever carry says", x.many(0, 3, 0), 3);
        due("balance", x.many(0, 3, 1), 12);
        due("lost by the tide", x.many(1, 3, 0), 0);
        due("balance there", x.many(1, 3, 1), 3);
        due("none was put", x.count(9), 8);
        due("0 ticks", x.many(0, 0, 0), 0);
    }

    // Promise 17
    private static void when() {
        SkyChairs x = told("place a 5 1 tide 6;chairs 4;price 3;canvas 2;come 1 1;come 3 1;law stay 1;");
        x.put(0, 3);
        x.route(1, 0);
        due("no such n", x.when(-1, 0), NO);
        due("no such what", x.when(3, 2), NO);
        due("when", x.when(9, 0), 5);
        due("balance", x.when(9, 1), 6);
        due("the first of several", x.when(1, 0), 0);
        due("0 ticks: never", x.when(0, 0), 0);
        x.ticks(2);
        due("ticks count from 0", x.when(9, 0), 5);
        x.ticks(94);
        due("behind the last", x.when(0, 0), 96);
        SkyChairs y = told("place a 5 1;chairs 1;price 3;come 3 1;");
        y.put(0, 1);
        y.route(1, 0);
        due("never is best", y.when(4, 0), 4);
        due("by the coin of the last tick", y.when(4, 1), 3);
    }

    // Promise 18
    private static void way() {
        SkyChairs x = told("place a 5 1;place b 9 1;place c 7 1;chairs 6;come 0 2;come 1 1;law stay 1;");
        due("no such n", x.way(97, 0), NONE);
        due("no such what", x.way(3, 2), NONE);
        due("no places", new SkyChairs().way(3, 0), NONE);
        due("none sits: the first", x.way(3, 1), 0x210);
        x.put(0, 1);
        x.put(1, 1);
        x.put(2, 1);
        due("one at c on tick 0, one at b on tick 1", x.way(2, 0), 4);
        due("c, b, a", x.way(2, 1), 0x012);
        x.put(1, 1);
        due("two at b on tick 0", x.way(2, 0), 4);
        due("the route", x.way(2, 1), 0x201);
        x.route(1, 0);
        x.ticks(1);
        due("from now on", x.way(1, 1), 0x201);
        due("coin with what there was", x.way(1, 0), 2);
        due("the route isn't changed", x.run(1), 0);
    }

    // Promise 19
    private static void best() {
        SkyChairs x = told("place a 5 1;chairs 9;price 50;come 0 6;law sit 1;law dodge (price > 8) * 100;");
        x.put(0, 6);
        due("no such n", x.best(-1, 0), NO);
        due("no such what", x.best(1, 2), NO);
        due("without a route: the least", x.best(3, 0), 0);
        x.route(1, 0);
        due("best", x.best(3, 0), 8);
        due("balance", x.best(3, 1), 48);
        due("as told", x.run(3), 0);
        SkyChairs y = told("place a 5 1;chairs 9;come 0 6;");
        y.put(0, 6);
        y.route(1, 0);
        due("20 at most", y.best(3, 0), 20);
    }

    // Promise 20
    private static void second() {
        SkyChairs x = told("place a 5 1;place b 4 1;place c 3 1;chairs 9;price 10;wage 4;come 0 3;law stay 1;");
        due("no route", x.second(1), NO);
        x.put(0, 1);
        x.put(1, 1);
        x.put(2, 1);
        x.route(3, 0x210);
        due("no such n", x.second(97), NO);
        due("the last place first", x.second(1), 6);
        due("0 ticks: the wage", x.second(0), -4);
        // On tick 1 the first boy is at the second of three places, and so is the second one.
        SkyChairs y = told("place a 5 1;place b 4 1;place c 3 1;chairs 9;price 10;come 1 3;law stay 1;");
        y.put(0, 1);
        y.put(1, 1);
        y.put(2, 1);
        y.route(3, 0x210);
        due("in the middle", y.second(3), 0);
        y.ticks(1);
        due("in the middle, from there", y.second(2), 0);
        // By seed 0 the numbers are 0, 68, ..: the one who dodges the first boy is asked again.
        SkyChairs z = told("place a 5 1;chairs 2;price 10;come 0 1;law dodge 20;law stay 1;");
        z.put(0, 1);
        z.route(1, 0);
        due("the first boy had nothing", z.run(1), 0);
        due("behind the first boy", z.second(1), 10);
    }

    // Promise 21
    private static void gather() {
        due("no places", new SkyChairs().gather(0), NONE);
        SkyChairs x = told("place a 5 9;place b 4 1 tide 1;place c 3 5 tide 2;chairs 20;come 0 1;");
        due("no such what", x.gather(3), NONE);
        due("no such what below", x.gather(-1), NONE);
        due("none out: the least walk", x.gather(2), 0x021);
        due("its walk", x.gather(1), 9);
        x.put(0, 3);
        x.put(1, 2);
        x.put(2, 4);
        due("all saved", x.gather(0), 9);
        due("b, c, a", x.gather(2), 0x021);
        x.ticks(1);
        due("one sits at a, b is lost", x.gather(0), 2 + 4);
        due("c, then the first of two walks", x.gather(2), 0x102);
        due("from 5 to 1 to 9", x.gather(1), 5 + 4 + 8);
        SkyChairs y = told("place a 1 4;place b 1 4;chairs 2;");
        y.put(1, 1);
        due("of several the first", y.gather(2), 0x10);
    }

    // Promise 22
    private static void bookDays() {
        SkyChairs x = told("sign a;sign b;");
        due("no such signs", x.day(4, true), NONE);
        due("signs below 0", x.day(-1, true), NONE);
        for (int i = 0; i < 60; i++) {
            due("day " + i, x.day(i & 3, i % 2 == 0), i);
        }
        due("a 61st", x.day(0, true), NONE);
        due("a 61st, struck", x.strike(0), NONE);
        due("days", x.count(6), 60);
        due("without signs", new SkyChairs().day(1, true), NONE);
        due("four signs", told("sign a;sign b;sign c;sign d;").day(15, false), 0);
    }

    // Promise 23
    private static void bookStrikes() {
        SkyChairs x = told("sign a;");
        due("an empty book", x.strike(0), NONE);
        x.day(1, true);
        x.day(1, true);
        due("below 0", x.strike(-1), NONE);
        due("itself", x.strike(2), NONE);
        due("strike(0)", x.strike(0), 2);
        due("struck", x.right(0), 1);
        due("struck twice", x.strike(0), 3);
        due("still", x.right(0), 1);
        due("one strike struck", x.strike(2), 4);
        due("still by the other", x.right(0), 1);
        due("that, too", x.strike(3), 5);
        due("both", x.right(0), 2);
        due("a strike of a strike of a strike", x.strike(5), 6);
        due("struck again", x.right(0), 1);
        due("a strike isn't a day", x.count(6), 7);
    }

    // Promise 24
    private static void knownBy() {
        SkyChairs x = told("sign a;");
        due("known(0) of none", x.known(0), true);
        due("known(1) of none", x.known(1), false);
        due("known(-2)", x.known(-2), false);
        x.day(1, true);
        x.day(0, false);
        x.strike(0);
        due("by none", x.right(0), 0);
        due("known(3)", x.known(3), true);
        due("by three", x.right(0), 1);
        due("known(4)", x.known(4), false);
        due("known(2)", x.known(2), true);
        due("ahead of the strike", x.right(0), 2);
        x.day(1, true);
        due("no more by it", x.right(0), 2);
        due("known by 2", x.count(7), 2);
        due("known(-1)", x.known(-1), true);
        due("all", x.right(0), 2);
        x.day(1, true);
        due("also those to come", x.right(0), 3);
        due("known by all", x.count(7), 5);
    }

    // Promises 25, 26, 27
    private static void rightTellsJoined() {
        SkyChairs x = told("sign a;sign b;sign c;");
        due("tells of an empty book: the first", x.tells(), 0);
        due("right of an empty book", x.right(2), 0);
        x.day(1, true);
        x.day(2, true);
        x.day(3, true);
        x.day(1, false);
        x.day(0, false);
        due("right(0)", x.right(0), 3);
        due("right(1)", x.right(1), 4);
        due("right(2)", x.right(2), 2);
        due("right(3)", x.right(3), NONE);
        due("right(-1)", x.right(-1), NONE);
        due("tells", x.tells(), 1);
        due("no signs", new SkyChairs().tells(), NONE);
        due("both", x.joined(0, 1, 0), 3);
        due("either", x.joined(0, 1, 1), 4);
        due("either, the other way", x.joined(1, 0, 1), 4);
        due("both of one", x.joined(1, 1, 0), 4);
        due("how 2", x.joined(0, 1, 2), NONE);
        due("how -1", x.joined(0, 1, -1), NONE);
        due("no such sign", x.joined(0, 3, 0), NONE);
        due("no such one", x.joined(-1, 0, 0), NONE);
    }

    // Promise 28
    private static void dodgers() {
        SkyChairs x = new SkyChairs();
        due("at least", x.dodgers(999, 999, 999, 0), 999);
        due("about", x.dodgers(999, 999, 1, 1), 998001);
        due("cut", x.dodgers(7, 5, 4, 1), 8);
        due("m 0", x.dodgers(7, 5, 0, 1), -2);
        due("m 0, at least", x.dodgers(7, 5, 0, 0), 12);
        due("none", x.dodgers(0, 0, 0, 0), 0);
        due("a 1000", x.dodgers(1000, 5, 0, 0), NONE);
        due("b 1000", x.dodgers(5, 1000, 0, 0), NONE);
        due("a below 0", x.dodgers(-1, 5, 0, 0), NONE);
        due("b below 0", x.dodgers(5, -1, 0, 0), NONE);
        due("m below 0", x.dodgers(5, 5, -1, 0), NONE);
        due("m above a", x.dodgers(4, 5, 5, 0), NONE);
        due("m above b", x.dodgers(5, 4, 5, 0), NONE);
        due("what 2", x.dodgers(5, 4, 3, 2), NONE);
        due("what -1", x.dodgers(5, 4, 0, -1), NONE);
    }

    // Promise 29
    private static void tried() {
        SkyChairs x = told("place a 5 1;place b 4 1;chairs 9;price 10;canvas 6;wets 1;come 0 2;come 1 1;come 3 1;sky 2 2;"
                + "sky 3 0;band a 0 0;law sit view - music * 3 - taken * 5;law dodge music * 100;law stay 1 + sun;");
        x.put(0, 2);
        x.put(1, 2);
        x.route(1, 0);
        // Tick 0: one at b (4 to 2), one at a (2 to -1): dodges the music. Tick 1: one at a; both at a pay.
        due("as it is", x.run(5), 20 - 24);
        due("0 no rain", x.tried(0, 0, 5), 30);
        due("1 no bands", x.tried(1, 0, 1), 10);
        due("1 bands", x.run(1), 0);
        due("2 nobody dodges", x.tried(2, 0, 1), 10);
        due("3 a isn't sat at", x.tried(3, 0, 2), 0);
        due("3 b isn't sat at", x.tried(3, 1, 2), 20);
        due("4 no wets", x.tried(4, 0, 3), 20);
        due("4 no wets, but rain", x.tried(4, 0, 5), 30);
        due("5 those of comes 0", x.tried(5, 0, 2), 10);
        due("5 those of comes 1", x.tried(5, 1, 2), 10);
        due("5 no such comes", x.tried(5, 3, 2), NO);
        due("5 comes below 0", x.tried(5, -1, 2), NO);
        due("3 no such place", x.tried(3, 2, 2), NO);
        due("3 place below 0", x.tried(3, -1, 2), NO);
        for (int what = 0; what < 5; what++) {
            if (what != 3) {
                due("i 1 of " + what, x.tried(what, 1, 2), NO);
            }
        }
        due("6", x.tried(6, 0, 2), NO);
        due("-1", x.tried(-1, 0, 2), NO);
        due("no such n", x.tried(0, 0, 97), NO);
        due("nothing is changed", x.run(5), 20 - 24);
        // No rain is cloud, not sun.
        SkyChairs y = told("place a 5 1;chairs 9;price 10;come 0 1;sky 0 2;law dodge (1 - sun) * 100;");
        y.put(0, 2);
        y.route(1, 0);
        due("it is cloud then", y.tried(0, 0, 1), 0);
    }

    // Promise 30
    private static void chance() {
        SkyChairs x = told("place a 5 1;chairs 9;price 1;come 0 1;law dodge 50;");
        x.put(0, 1);
        x.route(1, 0);
        due("seed below 0", x.chance(-1, 1, 0), NONE);
        due("no such n", x.chance(0, 97, 0), NONE);
        due("no such n below", x.chance(0, -1, 0), NONE);
        due("at least 0", x.chance(2147483647, 1, 0), 10);
        due("at least 2", x.chance(5, 1, 2), 0);
        for (int seed : new int[] {0, 1, 77, 123456789, 2147483647}) {
            int pay = 0;
            long state = seed;
            for (int k = 0; k < 10; k++) {
                state = (state * 1103515245L + 12345) & 0x7fffffffL;
                long own = (state / 65536) * 1103515245L + 12345 & 0x7fffffffL;
                pay += own / 65536 % 100 < 50 ? 0 : 1;
            }
            due("chance by " + seed, x.chance(seed, 1, 1), pay);
        }
        due("nothing is changed", x.run(1), 0);
    }

    // Promise 31
    private static void undo() {
        SkyChairs x = told("place a 5 1;place b 5 1;chairs 30;carry 9;");
        x.put(0, 4);
        x.bring(0, 1);
        x.put(1, 1);
        due("chair 0 is the least stacked", x.look(0, 1), 1);
        due("a put of none", x.put(1, 0), 0);
        due("a bring of none", x.bring(1, 0), 0);
        x.route(2, 0x10);
        x.route(0, 0);
        due("five", x.count(8), 5);
        due("the second route", x.undo(), 4);
        due("a route again", x.second(0), 0);
        due("the first route", x.undo(), 3);
        due("no route", x.second(0), NO);
        due("put", x.undo(), 2);
        due("stacked again", x.look(0, 0), 0);
        due("bring", x.undo(), 1);
        due("out again", x.look(0, 1), 0);
        due("carry is given back", x.put(1, 40), 5);
        due("undo that", x.undo(), 1);
        due("the first put", x.undo(), 0);
        due("none", x.undo(), NONE);
        due("all stacked", x.count(9), 30);
        for (int i = 0; i < 25; i++) {
            x.route(1, i % 2);
        }
        due("20 at most", x.count(8), 20);
        for (int i = 19; i >= 0; i--) {
            due("undo of twenty", x.undo(), i);
        }
        due("no more", x.undo(), NONE);
        due("the route is still there", x.second(0), 0);
        x.put(0, 1);
        x.ticks(0);
        due("no tick went by", x.count(8), 1);
        x.ticks(1);
        due("a tick went by", x.undo(), NONE);
        mixedUndo();
        // A route undone is on its own turn again.
        SkyChairs y = told("place a 5 1;place b 4 1;chairs 2;come 1 1;law stay 1;");
        y.put(0, 1);
        y.route(2, 0x01);
        y.ticks(1);
        y.route(2, 0x01);
        due("told anew: b first", y.run(1), 0);
        y.undo();
        due("as ahead: a is second", y.run(1), 2);
    }

    // Promise 31: more than twenty of all kinds
    private static void mixedUndo() {
        SkyChairs x = told("place a 5 1;place b 4 1;place c 3 1;chairs 40;carry 40;");
        for (int i = 0; i < 9; i++) {
            x.put(i % 3, 1 + i % 2);
            x.route(1 + i % 2, i % 3);
            x.bring(i % 3, 1);
        }
        due("twenty of twenty-seven", x.count(8), 20);
        due("stacked", x.count(9), 36);
        for (int i = 8; i >= 3; i--) {
            int left = 3 * (i - 3) + 3;
            due("undo bring " + i, x.undo(), left + 1);
            due("out " + i, x.place(i % 3, 3), 1 + i % 2 + outAhead(i));
            due("undo route " + i, x.undo(), left);
            due("undo put " + i, x.undo(), left - 1);
            due("out ahead of " + i, x.place(i % 3, 3), outAhead(i));
        }
        due("a bring", x.undo(), 1);
        due("a route", x.undo(), 0);
        due("no more", x.undo(), NONE);
        due("stacked then", x.count(9), 38);
        due("carry given back", x.put(0, 40), 40 - 6);
    }

    /** How many are out at its place ahead of turn i: one put twice and brought once leaves one. */
    private static int outAhead(int i) {
        int out = 0;
        for (int k = i - 3; k >= 0; k -= 3) {
            out += k % 2;
        }
        return out;
    }

    // Promises 32, 33
    private static void images() {
        SkyChairs x = told("place a 5 1;chairs 9;carry 4;come 0 1;come 1 3;sign s;law dodge 50;");
        due("no image", x.back(), NONE);
        x.put(0, 3);
        x.route(1, 0);
        due("keep", x.keep(), 0);
        due("what can be undone stays", x.count(8), 2);
        int five = x.run(5);
        x.day(1, true);
        x.ticks(3);
        x.route(0, 0);
        x.put(0, 4);
        due("back", x.back(), 0);
        due("nothing to undo", x.undo(), NONE);
        due("stacked", x.count(9), 6);
        due("carried as then", x.put(0, 4), 1);
        due("the book stays", x.count(6), 1);
        due("back again", x.back(), 0);
        due("route and numbers as then", x.run(5), five);
        x.ticks(2);
        int coin = x.sum(0);
        due("keep in place of the one ahead", x.keep(), 2);
        x.ticks(50);
        due("back to that", x.back(), 2);
        due("its coin", x.sum(0), coin);
        due("the sitter's time", x.look(0, 3), 8);
        Check.tell(x, "chairs 99;");
        due("a faulty text leaves it", x.back(), 2);
        Check.tell(x, "chairs 9;");
        due("a text doesn't", x.back(), NONE);
    }

    // Promise 34
    private static void count() {
        SkyChairs x = told("place a 5 1;place b 5 1;chairs 9;come 0 1;come 0 1;come 0 1;sign s;sign t;sign u;sign v;"
                + "law sit not (view + 1) * 2 <= 3 or 1;");
        int[] want = {2, 9, 3, 4, 10, 0, 0, 0, 0, 9};
        for (int what = 0; what < want.length; what++) {
            due("count(" + what + ")", x.count(what), want[what]);
        }
        due("count(10)", x.count(10), NONE);
        due("count(-1)", x.count(-1), NONE);
        x.put(0, 3);
        x.day(0, true);
        x.strike(0);
        x.day(0, true);
        x.known(2);
        due("days", x.count(6), 3);
        due("known", x.count(7), 2);
        due("undo", x.count(8), 1);
        due("stacked", x.count(9), 6);
        x.ticks(3);
        due("tick", x.count(5), 3);
    }
}
