/** Boundary cases of promises 1 to 5: the tape, a text with its numbers and words, its first fault, names. */
public final class TextEdgeTest {
    private static final int NONE = Edge.NONE;
    private static final String[] LANGUAGE = {"place", "tide", "chairs", "come", "sky", "band", "price", "wage", "carry", "wets",
        "canvas", "seed", "sign", "law", "sit", "stay", "dodge", "or", "and", "not", "view", "far", "sun", "music", "taken",
        "free", "tick"};
    private static final String[] SETS = {"chairs", "price", "wage", "carry", "wets", "canvas", "seed"};
    private static final int[] LEAST = {0, 0, 0, 1, 1, 0, 0};
    private static final int[] MOST = {40, 99, 99, 40, 9, 99, 99999};

    private TextEdgeTest() {
    }

    public static void main(String[] args) {
        newObject();
        fullTape();
        bytesOfATape();
        lengthOfAText();
        textThatIsGood();
        textBeginsAnew();
        fullTextsAgain();
        textWithAFault();
        emptyTexts();
        wordsOfALanguage();
        lettersOfAName();
        digitsAndBlanks();
        comparisons();
        linesCutShort();
        linesTooLong();
        numbersOfPlaces();
        numbersOfComes();
        numbersOfSkies();
        numbersOfBands();
        numbersOfSets();
        numbersOfLaws();
        plainNumbers();
        asManyAsMayBe();
        openBrackets();
        knots();
        formulas();
        toldAlready();
        notToldAhead();
        leastOfOnePlace();
        firstAlongTheText();
        faultCall();
        named();
        Check.end();
    }

    private static void holds(int promise, String sentence, long got, long want) {
        Edge.holds(promise, sentence, got, want);
    }

    private static void good(String sentence, String text, int lines) {
        SkyChairs x = new SkyChairs();
        holds(3, sentence + ": " + text, Check.tell(x, text), lines);
        holds(4, sentence + ": no fault", x.fault(0), 0);
        holds(4, sentence + ": no place of one", x.fault(1), NONE);
    }

    /** A fault; and with it all stays, but for the tape, which is empty then. */
    private static void fault(String sentence, String text, int fault, int at) {
        SkyChairs x = new SkyChairs();
        holds(4, sentence + ": " + text, Check.tell(x, text), NONE);
        holds(4, sentence + ", which: " + text, x.fault(0), fault);
        holds(4, sentence + ", where: " + text, x.fault(1), at);
    }

    /** The same fault, at the sign behind what is good. */
    private static void faultBehind(String sentence, String ahead, String behind, int fault) {
        fault(sentence, ahead + behind, fault, ahead.length());
    }

    // ---- Promise 1

    private static void newObject() {
        SkyChairs x = new SkyChairs();
        for (int what = 0; what < 10; what++) {
            holds(1, "a text without lines: count " + what, x.count(what), 0);
        }
        for (int what = 0; what < 8; what++) {
            holds(1, "nothing was so far: sum " + what, x.sum(what), 0);
        }
        for (int tick = 0; tick < 96; tick++) {
            holds(1, "sun on " + tick, x.sky(tick), 0);
        }
        holds(1, "no chairs", Edge.looked(x, 0, 0), Edge.NO_CHAIR);
        holds(1, "no places", x.place(0, 0), NONE);
        holds(1, "no signs", x.right(0), NONE);
        holds(1, "no route", x.second(0), Edge.NO);
        holds(1, "nothing to undo", x.undo(), NONE);
        holds(1, "no image", x.back(), NONE);
        holds(1, "no fault", x.fault(0), 0);
        holds(1, "no place of a fault", x.fault(1), NONE);
        holds(1, "an empty tape has no byte", x.text(1), -2);
        holds(1, "an empty tape has twenty by the first feed", x.feed(0, 0, 0, 0, 0), 20);
        Edge.same(1, "it is as one that is told a text without lines", Edge::fresh, () -> Check.told(""));
    }

    // ---- Promise 2

    private static SkyChairs fullOf(String last) {
        SkyChairs x = new SkyChairs();
        Check.feed(x, " ".repeat(680));
        Check.feed(x, last);
        return x;
    }

    private static void fullTape() {
        SkyChairs x = new SkyChairs();
        for (int i = 1; i <= 35; i++) {
            holds(2, "how many it has, up to 700", x.feed(0, 0, 0, 0, 0), 20 * i);
        }
        Edge.leaves(2, "none come if it would have more than 700", () -> fullOf("chairs 7;"),
                y -> y.feed(0x70726963, 0x65203120, 0x3b202020, 0x20202020, 0x20202020), NONE);
        SkyChairs y = fullOf("chairs 7;");
        y.feed(-1, -1, -1, -1, -1);
        y.feed(0, 0, 0, 0, 0);
        holds(2, "a refused feed leaves the bytes as they are", y.text(700), 1);
        holds(2, "up to the last of them", y.count(1), 7);
        holds(2, "room again behind a text", y.feed(0, 0, 0, 0, 0), 20);
    }

    private static void bytesOfATape() {
        SkyChairs x = new SkyChairs();
        // "sign abc;chairs 40; " by hand, the highest byte of each number first.
        holds(2, "twenty bytes", x.feed(0x7369676e, 0x20616263, 0x3b636861, 0x69727320, 0x34303b20), 20);
        holds(2, "four of each number, the highest first", x.text(20), 2);
        holds(2, "in their order", x.count(1), 40);
        holds(2, "letters as well", x.named(1, Check.letters("abc")), 0);
        x.feed(0x70726963, 0x6520393b, 0x3b000000, 0, 0);
        x.feed(-1, -1, -1, -1, -1);
        holds(2, "bytes come behind the tape", x.feed(0, 0, 0, 0, 0), 60);
        holds(3, "what is behind n doesn't matter", x.text(8), 1);
    }

    // ---- Promise 3

    private static SkyChairs fed() {
        SkyChairs x = Edge.busy();
        Check.feed(x, "chairs 3;");
        return x;
    }

    private static void lengthOfAText() {
        Edge.leaves(3, "there are not so many: 41 of 40, the tape stays", TextEdgeTest::fed, x -> x.text(41), -2);
        Edge.leaves(3, "n is below 0, the tape stays", TextEdgeTest::fed, x -> x.text(-1), -2);
        Edge.leaves(3, "n is the least of all numbers", TextEdgeTest::fed, x -> x.text(Edge.MIN), -2);
        Edge.leaves(3, "n is the greatest of all numbers", TextEdgeTest::fed, x -> x.text(Edge.MAX), -2);
        Edge.leaves(3, "there are not so many: 1 of none", Edge::fresh, x -> x.text(1), -2);
        Edge.leaves(3, "there are not so many: 701 of 700", () -> fullOf("chairs 7;"), x -> x.text(701), -2);
        holds(3, "all of them", fed().text(40), 2);
        holds(3, "all of 700", fullOf("chairs 7;").text(700), 1);
        SkyChairs x = fed();
        holds(3, "n 0: no lines", x.text(0), 0);
        holds(3, "the tape is empty then", x.text(1), -2);
        SkyChairs y = fed();
        holds(3, "fewer than there are", y.text(7), 1);
        holds(3, "the tape is empty then, too", y.text(1), -2);
        holds(3, "and has twenty by the next feed", y.feed(0, 0, 0, 0, 0), 20);
        holds(3, "n ends the text within a line", cut("sign abc;", 8), NONE);
        holds(3, "n ends the text right behind a line", cut("sign abc;x", 9), 1);
        holds(3, "n ends a word", cut("sign abcdefg;", 11), NONE);
        holds(4, "n ends a word of six letters, with a seventh behind n", cutFault("sign abcdefg;", 11), 11);
        holds(4, "n ends a number, with a digit behind n", cutFault("price 123;", 8), 8);
        holds(4, "n ends a number, too large with the digit behind n", cutFault("price 99999;", 8), 8);
        holds(3, "the tape ends with a digit", fullOf("            price 10").text(700), NONE);
        holds(3, "the tape ends with a letter", fullOf("            sign abc").text(700), NONE);
        holds(3, "the tape ends with <", fullOf("           law sit 1<").text(700), NONE);
    }

    private static int cut(String text, int n) {
        SkyChairs x = new SkyChairs();
        Check.feed(x, text);
        return x.text(n);
    }

    private static void textThatIsGood() {
        String text = "place a 1 1;place b 2 2 tide 3;chairs 4;sign s;sign t;law dodge 50;come 0 3;";
        Edge.same(3, "a text begins anew, whatever was ahead: busy", () -> Check.told(text), () -> toldOn(Edge.busy(), text));
        Edge.same(3, "a text begins anew: behind the last tick", () -> Check.told(text), () -> toldOn(Edge.late(), text));
        Edge.same(3, "a text begins anew: early", () -> Check.told(text), () -> toldOn(Edge.early(), text));
        Edge.same(3, "a text without lines, too", Edge::fresh, () -> toldOn(Edge.busy(), ""));
        SkyChairs x = toldOn(Edge.busy(), text);
        holds(3, "tick 0 is next", x.count(5), 0);
        holds(3, "all stacked", x.count(9), 4);
        holds(3, "no route", x.second(1), Edge.NO);
        holds(3, "an empty book", x.count(6), 0);
        holds(3, "nothing to undo", x.undo(), NONE);
        holds(3, "no image", x.back(), NONE);
        x.day(1, true);
        holds(3, "all known, also those to come", x.right(0), 1);
        holds(3, "none of the numbers was taken", x.chance(1, 3, 0), 10);
    }

    private static void textBeginsAnew() {
        String text = "place a 1 1;chairs 9;carry 3;sign s;";
        SkyChairs x = Check.told(text);
        x.known(0);
        x.put(0, 3);
        Check.tell(x, text);
        holds(3, "carry anew", x.put(0, 40), 3);
        x.day(1, true);
        x.day(1, true);
        holds(3, "all known, though it was known by 0", x.right(0), 2);
        holds(3, "by how many: all", x.count(7), 2);
        x.known(1);
        Check.tell(x, text);
        x.day(1, true);
        x.day(1, true);
        holds(3, "all known, though it was known by 1", x.right(0), 2);
    }

    /** As much as a text may hold of each kind. */
    private static String fullText() {
        StringBuilder text = new StringBuilder();
        for (int i = 0; i < 16; i++) {
            text.append(i < 5 ? "place " + (char) ('a' + i) + " 9 9;" : "").append(i < 4 ? "sign " + (char) ('p' + i) + ";" : "");
            text.append(i < 2 ? "band a 1 1;" : "").append(i < 12 ? "sky " + i + " 1;" : "").append("come ").append(i).append(" 1;");
        }
        text.append("chairs 9;price 1;wage 1;carry 1;wets 1;canvas 1;seed 1;law sit 9").append("+1".repeat(30)).append(";law stay 1;");
        return text.append("law dodge not 0;").toString();
    }

    private static void fullTextsAgain() {
        String full = fullText();
        int lines = full.length() - full.replace(";", "").length();
        SkyChairs x = new SkyChairs();
        for (int i = 0; i < 4; i++) {
            holds(3, "a full text, told for the " + i + "th time", Check.tell(x, full), lines);
            holds(34, "its knots", x.count(4), 64);
            holds(9, "its first law", x.law(0, 0), 39);
        }
        // Cut anywhere it has a fault; nothing of what was read is left for the text that comes then.
        for (int length = 1; length < full.length(); length += 3) {
            Check.tell(x, full.substring(0, length));
            holds(3, "a full text behind one of " + length, Check.tell(x, full), lines);
            holds(9, "its last law behind one of " + length, x.law(2, 0), 1);
            x = length % 90 == 1 ? new SkyChairs() : x;
        }
        String brackets = "place a 1 1;law sit ((((((((2))))))))*3;";
        for (String faulty : new String[] {"law sit ((((((((", "law sit not (1 + 2 * (", "law sit 1 or 2 and 3 < 4 + 5 *", "law stay (1 < 2 <"}) {
            SkyChairs y = Check.told(brackets);
            holds(4, "a fault within a law", Check.tell(y, faulty), NONE);
            holds(9, "a fault within a law leaves the law", y.law(0, 0), 6);
            holds(3, "nothing of it is left", Check.tell(y, brackets), 2);
            holds(9, "nothing of it is left in a law", y.law(0, 0), 6);
        }
    }

    private static SkyChairs toldOn(SkyChairs x, String text) {
        Check.tell(emptied(x), text);
        return x;
    }

    /** The tape's first byte alone is no text: a fault at 0, and the tape is empty then. */
    private static SkyChairs emptied(SkyChairs x) {
        Check.tell(x, "?");
        return x;
    }

    private static void textWithAFault() {
        String[] faulty = {"place z 100 1;", "chairs 9;sign", "sky 0 2;sky 0 2;", "band z 0 0;",
            "price 9;seed 8;canvas 1;wage 1;chairs 1;law sit 1;law sit 2;"};
        int[] which = {2, 1, 3, 4, 3};
        int[] where = {8, 13, 12, 5, 54};
        for (int i = 0; i < faulty.length; i++) {
            String text = faulty[i];
            holds(3, "none with a fault", Check.tell(emptied(Edge.busy()), text), NONE);
            SkyChairs x = emptied(Edge.busy());
            Check.tell(x, text);
            holds(4, "which", x.fault(0), which[i]);
            holds(4, "where", x.fault(1), where[i]);
            // Both end with the same fault, so that all else can be compared.
            Edge.same(3, "all stays with a fault: " + text, () -> emptied(Edge.busy()), () -> {
                SkyChairs y = emptied(Edge.busy());
                Check.tell(y, text);
                return emptied(y);
            });
        }
        SkyChairs x = fed();
        holds(3, "a fault", x.text(3), NONE);
        holds(3, "the tape is empty with a fault, too", x.text(1), -2);
    }

    private static void emptyTexts() {
        good("a text may have no lines", "", 0);
        good("a text of blanks", " \n  \n\n ", 0);
        good("blanks ahead and behind", "\n\n chairs 1 ; \n", 1);
        good("lines right behind one another", "chairs 1;price 1;wage 1;", 3);
        fault("a line has a word", ";", 1, 0);
        fault("an empty line", "chairs 1;;", 1, 9);
        fault("a line ends with a semicolon", "chairs 1", 1, 8);
        fault("a semicolon must come, behind blanks", "chairs 1 \n ", 1, 11);
        fault("a semicolon, not another line", "chairs 1 price 1;", 1, 9);
    }

    // ---- Promises 3 and 4: tokens

    private static void wordsOfALanguage() {
        for (String word : LANGUAGE) {
            faultBehind("no word of the language names a place", "place ", word + " 1 1;", 1);
            faultBehind("no word of the language names a sign", "sign ", word + ";", 1);
            faultBehind("no word of the language is a place of a band", "place a 1 1;band ", word + " 1 1;", 1);
            if (word.length() < 6) {
                good("a word of the language and a letter names", "place " + word + "q 1 1;sign q" + word + ";", 2);
            }
        }
        for (String word : new String[] {"tide", "sit", "stay", "dodge", "or", "and", "not", "view", "far", "sun", "music",
            "taken", "free", "tick", "a", "placex", "comes", "skies", "laws"}) {
            fault("a line begins with one of its words", word + " 1;", 1, 0);
        }
        for (String word : new String[] {"price", "view", "a", "tide", "or", "1", "(", ";"}) {
            faultBehind("a kind of law", "law ", word + " 1;", 1);
        }
        for (String word : new String[] {"tide", "place", "sit", "wage", "chairs", "a", "viewx", "vie"}) {
            faultBehind("no name of a law", "law sit ", word + ";", 1);
        }
        good("names of a law", "law sit view+far+sun+music+taken+free+price+tick;", 1);
    }

    private static void lettersOfAName() {
        good("a name of one letter", "place a 1 1;sign z;", 2);
        good("a name of six letters", "place abcdef 1 1;sign uvwxyz;band abcdef 1 1;", 3);
        faultBehind("a name of seven letters", "place ", "abcdefg 1 1;", 1);
        faultBehind("a sign of seven letters", "sign ", "abcdefg;", 1);
        faultBehind("a band's of seven letters", "place abcdef 1 1;band ", "abcdefg 1 1;", 1);
        faultBehind("a word of seven letters in a law", "law sit ", "viewfar;", 1);
        faultBehind("a word of many letters", "", "a".repeat(690) + ";", 1);
        faultBehind("a name of no letters", "place ", "1 1;", 1);
        faultBehind("small letters", "place ", "A 1 1;", 1);
        faultBehind("small letters all along", "place a", "B 1 1;", 1);
        faultBehind("next to small letters: 96", "sign ", "`;", 1);
        faultBehind("next to small letters: 123", "sign ", "{;", 1);
        good("the first and the last letter", "sign az;", 1);
    }

    private static void digitsAndBlanks() {
        good("digits with 0 ahead", "price 00000000000000000099;", 1);
        good("a row of 0", "price " + "0".repeat(600) + ";", 1);
        fault("a number above all that wraps round", "price 4294967296;", 2, 6);
        fault("a number above all that wraps round twice", "price 18446744073709551616;", 2, 6);
        fault("a number of 600 digits", "price " + "9".repeat(600) + ";", 2, 6);
        fault("in a law, too", "law sit 4294967297;", 2, 8);
        good("blanks 10 and 32", "price\n 1\n;\n", 1);
        for (int sign : new int[] {0, 9, 11, 13, 31, 33, 127, 160, 255}) {
            faultBehind("no blank: " + sign, "price 1", (char) sign + ";", 1);
        }
        faultBehind("next to digits: 47", "price ", "/;", 1);
        faultBehind("next to digits: 58", "price ", ":;", 1);
        good("the first and the last digit", "price 09;wage 90;", 2);
        good("no blank between letters and digits", "place a1 2tide3;chairs4;law sit(view)and not 1or far;", 3);
        fault("a blank parts a word", "pri ce 1;", 1, 0);
        fault("a blank parts a number", "price 1 2;", 1, 8);
        faultBehind("no sign ahead of a number", "price ", "-1;", 1);
    }

    private static long law(String formula) {
        return Check.told("place a 30 7;law sit " + formula + ";").law(0, 0);
    }

    private static void comparisons() {
        holds(9, "= right behind <", law("2<=2"), 1);
        holds(9, "> right behind <", law("2<>2"), 0);
        holds(9, "= right behind >", law("2>=2"), 1);
        holds(9, "< alone", law("2<2"), 0);
        holds(9, "> alone", law("2>2"), 0);
        fault("= not right behind <", "law sit 2< =2;", 1, 11);
        fault("> not right behind <", "law sit 2< >2;", 1, 11);
        fault("= not right behind >", "law sit 2>\n=2;", 1, 11);
        fault("> right behind > doesn't belong to it", "law sit 2>>2;", 1, 10);
        fault("< right behind > doesn't belong to it", "law sit 2><2;", 1, 10);
        fault("< right behind < doesn't belong to it", "law sit 2<<2;", 1, 10);
        fault("< right behind = doesn't belong to it", "law sit 2=<2;", 1, 10);
        fault("> right behind = doesn't belong to it", "law sit 2=>2;", 1, 10);
        fault("= right behind = doesn't belong to it", "law sit 2==2;", 1, 10);
        fault("= behind <> doesn't belong to it", "law sit 2<>=2;", 1, 11);
        fault("= behind >= doesn't belong to it", "law sit 2>==2;", 1, 11);
        fault("> behind <= doesn't belong to it", "law sit 2<=>2;", 1, 11);
        fault("< at the length", "law sit 2<", 1, 10);
        holds(4, "< at n, with = behind n", cutFault("law sit 2<=2;", 10), 10);
    }

    private static int cutFault(String text, int n) {
        SkyChairs x = new SkyChairs();
        Check.feed(x, text);
        x.text(n);
        return x.fault(1);
    }

    // ---- Promise 4: fault 1 within lines

    /** Each line, cut behind each of its tokens: by the length, and by a semicolon too early. */
    private static void linesCutShort() {
        String[][] lines = {{"place", " a", " 1", " 2"}, {"place", " a", " 1", " 2", " tide", " 3"}, {"chairs", " 1"},
            {"come", " 1", " 2"}, {"sky", " 1", " 2"}, {"band", " a", " 1", " 2"}, {"price", " 1"}, {"wage", " 1"}, {"carry", " 1"},
            {"wets", " 1"}, {"canvas", " 1"}, {"seed", " 1"}, {"sign", " a"}, {"law", " sit", " 1"}, {"law", " stay", " not", " 1"},
            {"law", " dodge", " (", " 1", " )"}, {"law", " sit", " 1", " <", " 2"}, {"law", " sit", " 1", " or", " 2"}};
        for (String[] tokens : lines) {
            String ahead = tokens[0].equals("band") ? "place a 1 1;" : "";
            StringBuilder text = new StringBuilder(ahead);
            for (int i = 0; i < tokens.length; i++) {
                text.append(tokens[i]);
                fault("the length, if more must come", text.toString(), 1, text.length());
                fault("the length behind blanks", text + " \n", 1, text.length() + 2);
                boolean whole = ends(tokens, i);
                if (!whole) {
                    faultBehind("a semicolon too early", text.toString(), ";", 1);
                }
            }
            good("the whole line", text + ";", ahead.isEmpty() ? 1 : 2);
        }
    }

    private static boolean ends(String[] tokens, int i) {
        if (i == tokens.length - 1) {
            return true;
        }
        boolean tide = tokens[0].equals("place") && i == 3;
        boolean operand = tokens[0].equals("law") && tokens[i].equals(" 1") && !tokens[2].equals(" (");
        return tide || operand;
    }

    private static void linesTooLong() {
        String[] lines = {"place a 1 2", "place a 1 2 tide 3", "chairs 1", "come 1 2", "sky 1 2", "price 1", "sign a", "law sit 1"};
        for (String line : lines) {
            for (String more : new String[] {"7;", "a;", "chairs 1;", "(;", ");", "1000000;", ":;"}) {
                faultBehind("no more in a line", line + " ", more, 1);
            }
        }
        faultBehind("a tide once", "place a 1 2 tide 3 ", "tide 4;", 1);
        faultBehind("a tide behind both numbers", "place a 1 ", "tide 4;", 1);
        faultBehind("a number, not a name", "come ", "a 1;", 1);
        faultBehind("a name, not a number", "sign ", "1;", 1);
        faultBehind("a place's name, not its number", "place a 1 1;band ", "0 1 1;", 1);
    }

    // ---- Promise 4: fault 2, numbers

    private static void numbersOfPlaces() {
        good("view 0, far 0, tide 0", "place a 0 0 tide 0;", 1);
        good("view 99, far 99, tide 95", "place a 99 99 tide 95;", 1);
        faultBehind("view 100", "place a ", "100 0;", 2);
        faultBehind("far 100", "place a 0 ", "100;", 2);
        faultBehind("tide 96", "place a 0 0 tide ", "96;", 2);
        SkyChairs x = Check.told("place a 0 99 tide 0;place b 99 0 tide 95;place c 1 1;");
        holds(7, "view 0", x.place(0, 0), 0);
        holds(7, "far 99", x.place(0, 1), 99);
        holds(7, "tide 0", x.place(0, 2), 0);
        holds(7, "view 99", x.place(1, 0), 99);
        holds(7, "far 0", x.place(1, 1), 0);
        holds(7, "tide 95", x.place(1, 2), 95);
        holds(7, "without: never", x.place(2, 2), NONE);
    }

    private static void numbersOfComes() {
        good("come on tick 0, one", "come 0 1;", 1);
        good("come on tick 95, twenty", "come 95 20;", 1);
        good("come on one tick twice", "come 5 1;come 5 1;", 2);
        faultBehind("come on tick 96", "come ", "96 1;", 2);
        faultBehind("come 0", "come 0 ", "0;", 2);
        faultBehind("come 21", "come 0 ", "21;", 2);
    }

    private static void numbersOfSkies() {
        good("each sky, the first and the last tick", "sky 0 0;sky 1 1;sky 95 2;", 3);
        faultBehind("sky on tick 96", "sky ", "96 0;", 2);
        faultBehind("sky 3", "sky 0 ", "3;", 2);
    }

    private static void numbersOfBands() {
        String place = "place a 1 1;";
        good("a band from 0 to 95", place + "band a 0 95;", 2);
        good("a band to its first tick", place + "band a 95 95;band a 0 0;", 3);
        faultBehind("a band from 96", place + "band a ", "96 96;", 2);
        faultBehind("a band to 96", place + "band a 0 ", "96;", 2);
        faultBehind("a band to below its first", place + "band a 7 ", "6;", 2);
        faultBehind("a band to 0", place + "band a 1 ", "0;", 2);
    }

    private static void numbersOfSets() {
        for (int i = 0; i < SETS.length; i++) {
            good("the least " + SETS[i], SETS[i] + " " + LEAST[i] + ";", 1);
            good("the most " + SETS[i], SETS[i] + " " + MOST[i] + ";", 1);
            faultBehind("too large", SETS[i] + " ", MOST[i] + 1 + ";", 2);
            if (LEAST[i] > 0) {
                faultBehind("too small", SETS[i] + " ", LEAST[i] - 1 + ";", 2);
            }
        }
        holds(34, "40 chairs", Check.told("chairs 40;").count(1), 40);
        holds(34, "0 chairs", Check.told("chairs 0;").count(1), 0);
    }

    private static void numbersOfLaws() {
        holds(9, "a number of 0", law("0"), 0);
        holds(9, "a number of 9999", law("9999"), 9999);
        faultBehind("a number of 10000", "law sit ", "10000;", 2);
        faultBehind("a number of 10000 within", "law sit (1 + ", "10000);", 2);
    }

    /** What a text that doesn't tell it has: chairs 0, price 2, wage 0, carry 10, wets 3, canvas 5, seed 0. */
    private static void plainNumbers() {
        String both = "place a 1 1;chairs 12;come 0 9;come 3 1;sky 1 2;sky 2 0;sky 5 2;law dodge 50;";
        String told = both + "price 2;wage 0;carry 10;wets 3;canvas 5;seed 0;";
        Edge.Call act = x -> x.put(0, 12) + (x.route(1, 0) ? 100 : 0);
        Edge.same(3, "what isn't told is plain", () -> acted(told, act), () -> acted(both, act));
        String[] others = {"price 3;", "wage 1;", "carry 11;", "wets 4;", "canvas 6;", "seed 99999;"};
        for (String other : others) {
            Edge.holds(3, "and that can be seen: " + other, shown(both + other) == shown(both), false);
        }
        holds(34, "no chairs without", Check.told("place a 1 1;").count(1), 0);
        holds(8, "sun without a sky", Check.told("place a 1 1;").sky(95), 0);
    }

    private static SkyChairs acted(String text, Edge.Call act) {
        SkyChairs x = Check.told(text);
        act.on(x);
        return x;
    }

    private static long shown(String text) {
        SkyChairs x = Check.told(text);
        long shown = x.put(0, 12);
        x.route(1, 0);
        shown = shown * 1000 + x.second(7);
        x.ticks(7);
        return shown * 1000000 + x.sum(7) * 1000 + x.sum(2) * 100 + x.sum(6);
    }

    // ---- Promise 4: fault 2, how many

    private static String row(String line, int n, String names) {
        StringBuilder row = new StringBuilder();
        for (int i = 0; i < n; i++) {
            row.append(line.replace("#", "" + i).replace("@", "" + names.charAt(i % names.length())));
        }
        return row.toString();
    }

    private static void asManyAsMayBe() {
        String letters = "abcdefghijklmnopqrstuvwxyz";
        String[] lines = {"place @ 1 1;", "come 5 1;", "sky # 1;", "sign @;"};
        int[] most = {5, 16, 12, 4};
        int[] counted = {0, 2, NONE, 3};
        for (int i = 0; i < lines.length; i++) {
            String row = row(lines[i], most[i], letters);
            good("as many as may be", row, most[i]);
            if (counted[i] != NONE) {
                holds(34, "all of them", Check.told(row).count(counted[i]), most[i]);
            }
            faultBehind("one more, at the word", row, lines[i].replace("#", "90").replace("@", "z"), 2);
            faultBehind("one more, at the word, by its word alone", row, lines[i].substring(0, lines[i].indexOf(' ')), 2);
        }
        String bands = "place a 1 1;band a 1 1;band a 2 2;";
        good("two bands", bands, 3);
        faultBehind("a third band", bands, "band a 3 3;", 2);
        String last = row(lines[2], 11, letters) + "sky 95 2;";
        holds(8, "the twelfth sky", Check.told(last).sky(95), 2);
    }

    private static void openBrackets() {
        String eight = "(".repeat(8);
        String shut = ")".repeat(8);
        holds(9, "eight open", law(eight + "3" + shut), 3);
        fault("a ninth open", "law sit " + eight + "(3", 2, 16);
        holds(9, "eight, closed, and eight again", law(eight + "3" + shut + "+" + eight + "4" + shut), 7);
        fault("a ninth behind others that were closed", "law sit (1)+(2)+" + eight + "(3", 2, 24);
        holds(9, "seven open, one of them closed, and another", law("(((((((1)+(2)))))))"), 3);
        fault("the ninth, with eight open behind others", "law sit " + eight + "1)+((", 2, 20);
        fault("in the second law, too", "law sit 1;law stay " + eight + "(1", 2, 27);
        good("eight in each law", "law sit " + eight + "1" + shut + ";law stay " + eight + "1" + shut + ";", 2);
        fault("not open: a bracket too many", "law sit (1));", 1, 11);
        fault("not closed at the semicolon", "law sit (1;", 1, 10);
        fault("an empty bracket", "law sit ();", 1, 9);
    }

    private static void knots() {
        String sum = "law sit 1" + "+1".repeat(31) + ";";
        holds(34, "63 knots", Check.told("place a 1 1;" + sum).count(4), 63);
        String[] single = {"7", "view"};
        for (String knot : single) {
            SkyChairs x = Check.told("place a 7 1;" + sum + "law stay " + knot + ";");
            holds(34, "64 knots of all laws", x.count(4), 64);
            holds(9, "the 64th counts", x.law(1, 0), 7);
            holds(9, "those ahead as well", x.law(0, 0), 32);
        }
        String all = sum + "law stay 1;law dodge ";
        for (String knot : new String[] {"1", "view", "not 1"}) {
            faultBehind("a 65th knot, at it", all, knot + ";", 2);
        }
        for (String knot : new String[] {"+", "-", "*", "/", "<", "<=", "=", "<>", ">=", ">", "and", "or"}) {
            faultBehind("a 65th knot, at it", sum + "law stay 1 ", knot + " 1;", 2);
        }
        faultBehind("a 65th knot behind not", sum + "law stay not ", "1;", 2);
        good("brackets are no knots", sum + "law stay ((((1))));", 2);
        holds(34, "each one", Check.told("law sit not 1+2-3*4/5<6 and view<=7 or 1=1;law stay 1<>1;law dodge (2>=1)>far;").count(4), 28);
        holds(34, "no law, no knots", Check.told("place a 1 1;").count(4), 0);
        String nots = "law sit " + "not ".repeat(63) + "1;";
        holds(34, "63 nots and a number", Check.told(nots).count(4), 64);
        fault("64 nots and a number", "law sit " + "not ".repeat(64) + "1;", 2, 264);
    }

    private static void formulas() {
        String[] bad = {"1 1", "1 view", "1 not 1", "1 (1)", "(1) 1", "(1)(1)", "1 + not 1", "1 * not 1", "1 < not 1", "1 < 2 < 3",
            "1 = 2 <> 3", "1 < 2 + 3 > 4"};
        int[] where = {2, 2, 2, 2, 4, 3, 4, 4, 4, 6, 6, 10};
        for (int i = 0; i < bad.length; i++) {
            fault("can't stand there", "law sit " + bad[i] + ";", 1, 8 + where[i]);
        }
        for (String sign : new String[] {"+", "-", "*", "/", "<", "<=", "=", "<>", ">=", ">", "and", "or", ")"}) {
            faultBehind("no sign ahead of all", "law sit ", sign + " 1;", 1);
            faultBehind("no sign behind a sign", "law sit 1 + ", sign + " 1;", 1);
            faultBehind("no sign behind a bracket", "law sit (", sign + " 1);", 1);
            faultBehind("no sign behind not", "law sit not ", sign + " 1;", 1);
        }
        for (String sign : new String[] {"!", "&", "%", "^", ",", ".", "[", "]"}) {
            faultBehind("a token that is none", "law sit 1 ", sign + " 1;", 1);
        }
        holds(9, "not ahead of a comparison takes all of it", law("not 1 < 2"), 0);
        holds(9, "not behind and", law("1 and not 0"), 1);
        holds(9, "not behind or", law("0 or not 0"), 1);
        holds(9, "a comparison in brackets in a comparison", law("(1 < 2) = (3 < 4)"), 1);
    }

    // ---- Promise 4: faults 3 and 4

    private static void toldAlready() {
        faultBehind("a place's name, at it", "place a 1 1;place ", "a 1 1;", 3);
        faultBehind("a place's name of six letters", "place abcdef 1 1;place b 1 1;place ", "abcdef 1 1;", 3);
        good("another last letter is another name", "place abcdef 1 1;place abcdeg 1 1;place abcde 1 1;", 3);
        faultBehind("a sign's name, at it", "sign a;sign b;sign ", "b;", 3);
        good("a sign's may be a place's", "place a 1 1;sign a;place b 1 1;sign b;", 4);
        for (int i = 0; i < SETS.length; i++) {
            String line = SETS[i] + " " + LEAST[i] + ";";
            faultBehind("told already, at the word", line + "place a 1 1;", SETS[i] + " 1;", 3);
            faultBehind("told already, at the word alone", line, SETS[i], 3);
        }
        faultBehind("a sky of the same tick, at it", "sky 0 1;sky 95 1;sky ", "0 1;", 3);
        faultBehind("a sky of the last tick", "sky 0 1;sky 95 1;sky ", "95 1;", 3);
        faultBehind("a sky of the same tick, told as sun", "sky 5 0;sky ", "5 0;", 3);
        faultBehind("a sky of the same tick with 0 ahead", "sky 5 0;sky ", "05 1;", 3);
        for (String kind : new String[] {"sit", "stay", "dodge"}) {
            faultBehind("a law of its kind, at the kind", "law sit 1;law stay 1;law dodge 1;law ", kind + " 1;", 3);
        }
    }

    private static void notToldAhead() {
        faultBehind("a place that isn't told, at it", "place b 1 1;band ", "a 1 1;", 4);
        faultBehind("a place told behind", "band ", "a 1 1;place a 1 1;", 4);
        faultBehind("a sign isn't a place", "sign a;band ", "a 1 1;", 4);
        faultBehind("no places at all", "band ", "abcdef 1 1;", 4);
        faultBehind("a place's name and a letter", "place a 1 1;band ", "aa 1 1;", 4);
        good("told ahead", "place a 1 1;place b 1 1;band b 1 1;band a 1 1;", 4);
    }

    private static void leastOfOnePlace() {
        String sum = "law sit 1" + "+1".repeat(31) + ";law stay 1 ";
        for (String knot : new String[] {"1", "view", "not", "10000"}) {
            faultBehind("1 ahead of 2: a 65th knot that can't stand there", sum, knot + ";", 1);
        }
        faultBehind("1 ahead of 2: a ninth bracket that can't stand there", "law sit ((((((((1 ", "(1;", 1);
        faultBehind("1 ahead of 2: a number beyond that can't stand there", "place ", "100 1 1;", 1);
        faultBehind("1 ahead of 2: behind the line's last", "price 1 ", "100;", 1);
        faultBehind("1 ahead of 2: a number beyond in a law", "law sit 1 ", "10000;", 1);
        faultBehind("1 ahead of 3: a word told already that can't stand there", "price 1;wage ", "price 1;", 1);
        faultBehind("1 ahead of 3: in the line itself", "price 1 ", "price 1;", 1);
        faultBehind("1 ahead of 4: a name that is none", "band ", "abcdefg 1 1;", 1);
        String full = row("place @ 1 1;", 5, "abcde");
        faultBehind("1 ahead of 2: a word of a sixth that can't stand there", full + "price ", "place f 1 1;", 1);
        String compare = "law sit 1" + "+1".repeat(30) + "=1;law stay 1 ";
        faultBehind("a 65th knot that may stand there", compare, "< 1;", 2);
        String twice = "law stay 1;law sit 1" + "+1".repeat(30) + "=1 ";
        faultBehind("1 ahead of 2: a second comparison as the 65th", twice, "< 1;", 1);
    }

    private static void firstAlongTheText() {
        fault("the first of two: 2, then 1", "price 100;?", 2, 6);
        fault("the first of two: 1, then 2", "price ? 100;", 1, 6);
        fault("the first of two: 3, then 2", "price 1;price 100;", 3, 8);
        fault("the first of two: 2 at the word, then 3", row("sign @;", 4, "abcd") + "sign a;", 2, 28);
        fault("the first of two: 2 at the word, then 4", "place a 1 1;band a 1 1;band a 1 1;band q 1 1;", 2, 34);
        fault("the first of two: 4, then 2", "band a 96 96;", 4, 5);
        fault("the first of two: 3, then 2", "sky 5 1;sky 5 3;", 3, 12);
        fault("the first of two: 3, then 2, in a place", "place a 1 1;place a 100 1;", 3, 18);
        fault("the first of two: 2, then the length", "place a 100", 2, 8);
        fault("the first of two: 1 in a law, then a 65th knot", "law sit 1 + + 1" + "+1".repeat(40) + ";", 1, 12);
        fault("the first of two: 3 at a kind, then 1", "law sit 1;law sit ;", 3, 14);
        fault("lines ahead are good", "place a 1 1;chairs 1;come 0 0;", 2, 28);
    }

    // ---- Promise 4: the call

    private static void faultCall() {
        SkyChairs x = new SkyChairs();
        Check.tell(x, "chairs 41;");
        x.text(1);
        x.text(-1);
        holds(4, "of the latest text that was not -2: which", x.fault(0), 2);
        holds(4, "of the latest text that was not -2: where", x.fault(1), 7);
        Edge.refused(4, "no what 2", y -> y.fault(2), NONE);
        Edge.refused(4, "no what -1", y -> y.fault(-1), NONE);
        Edge.refused(4, "no what at all", y -> y.fault(Edge.MIN) * 2 + y.fault(Edge.MAX), 3 * NONE);
        Check.tell(x, "chairs 40;");
        holds(4, "a good text has no fault", x.fault(0), 0);
        holds(4, "and no place of it", x.fault(1), NONE);
        Check.tell(x, "?");
        holds(4, "a fault at the first byte", x.fault(1), 0);
        x.text(0);
        holds(4, "a text without lines has none", x.fault(1), NONE);
        SkyChairs y = fullOf("price 1;           ");
        y.text(699);
        holds(4, "no fault behind 699 bytes", y.fault(0), 0);
        SkyChairs z = fullOf("price 1;        wage");
        z.text(700);
        holds(4, "more must come behind 700 bytes", z.fault(1), 700);
    }

    // ---- Promise 5

    private static void named() {
        SkyChairs x = Check.told("place a 1 1;place abcdef 1 1;place zzzzzz 1 1;place b 1 1;place c 1 1;sign c;sign b;sign zzzzzz;sign d;");
        holds(5, "one letter, the first highest of six", x.named(0, 1 << 25), 0);
        holds(5, "six letters", x.named(0, 1 << 25 | 2 << 20 | 3 << 15 | 4 << 10 | 5 << 5 | 6), 1);
        holds(5, "six of the last letter", x.named(0, 0x34000000 | 26 << 20 | 26 << 15 | 26 << 10 | 26 << 5 | 26), 2);
        holds(5, "the fifth place", x.named(0, Check.letters("c")), 4);
        holds(5, "the first sign", x.named(1, Check.letters("c")), 0);
        holds(5, "the fourth sign", x.named(1, Check.letters("d")), 3);
        holds(5, "a sign is no place", x.named(0, Check.letters("d")), NONE);
        holds(5, "a place is no sign", x.named(1, Check.letters("a")), NONE);
        holds(5, "fewer letters", x.named(0, Check.letters("abcde")), NONE);
        holds(5, "no letters", x.named(0, 0) + x.named(1, 0), 2 * NONE);
        holds(5, "the first letter lowest", x.named(0, 1), NONE);
        holds(5, "a bit above six letters", x.named(0, 1 << 25 | 1 << 30), NONE);
        holds(5, "the highest bit", x.named(0, 1 << 25 | 1 << 31), NONE);
        holds(5, "a letter of 31", x.named(0, 31 << 25), NONE);
        for (int what : new int[] {2, -1, Edge.MIN, Edge.MAX}) {
            Edge.refused(5, "no such what " + what, y -> y.named(what, Check.letters("a")), NONE);
        }
        Edge.refused(5, "there is none such", y -> y.named(0, Check.letters("s")), NONE);
        holds(5, "a text without lines has none", new SkyChairs().named(0, 0), NONE);
    }
}
