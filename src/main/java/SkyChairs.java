import java.util.Arrays;
import java.util.NoSuchElementException;

/** Chairs by the sky: a front of places told as a text, its ticks, and what is best done on it. */
public final class SkyChairs {
    public static final int NONE = -1;

    private static final int NO_BALANCE = Integer.MIN_VALUE;
    private static final long ERROR = Long.MIN_VALUE;

    private static final int MAX_TAPE = 700;
    private static final int MAX_PLACES = 5;
    private static final int MAX_CHAIRS = 40;
    private static final int MAX_COMES = 16;
    private static final int MAX_SKIES = 12;
    private static final int MAX_BANDS = 2;
    private static final int MAX_SIGNS = 4;
    private static final int MAX_KNOTS = 64;
    private static final int MAX_OPEN = 8;
    private static final int MAX_ROUTE = 8;
    private static final int MAX_DAYS = 60;
    private static final int MAX_UNDO = 20;
    private static final int TICKS = 96;

    private static final int SUN = 0;
    private static final int CLOUD = 1;
    private static final int RAIN = 2;

    private static final int STACKED = 0;
    private static final int OUT = 1;
    private static final int SAT = 2;
    private static final int LOST = 3;

    private static final int LAW_SIT = 0;
    private static final int LAW_STAY = 1;
    private static final int LAW_DODGE = 2;
    private static final int LAWS = 3;

    // What is summed, numbered as sum() asks for it.
    private static final int SUM_COIN = 0;
    private static final int SUM_PAID = 1;
    private static final int SUM_DODGES = 2;
    private static final int SUM_MISSED = 3;
    private static final int SUM_WALL = 4;
    private static final int SUM_LOST = 5;
    private static final int SUM_ROTTEN = 6;
    private static final int SUMS = 7;

    // What a text sets once, in the order of its words from W_PRICE on.
    private static final int SET_PRICE = 0;
    private static final int SET_CHAIRS = 1;
    private static final int SET_WAGE = 2;
    private static final int SET_CARRY = 3;
    private static final int SET_WETS = 4;
    private static final int SET_CANVAS = 5;
    private static final int SET_SEED = 6;
    private static final int SETS = 7;
    private static final int[] SET_LOW = {0, 0, 0, 1, 1, 0, 0};
    private static final int[] SET_HIGH = {99, 40, 99, 40, 9, 99, 99999};
    private static final int[] SET_PLAIN = {2, 0, 0, 10, 3, 5, 0};

    // Kinds of tokens. Words of the language follow W_FIRST in the order of WORDS.
    private static final int T_END = 0;
    private static final int T_BAD = 1;
    private static final int T_NUMBER = 2;
    private static final int T_NAME = 3;
    private static final int T_SEMICOLON = 4;
    private static final int T_OPEN = 5;
    private static final int T_CLOSE = 6;
    private static final int T_LESS = 7;
    private static final int T_LESS_EQUAL = 8;
    private static final int T_EQUAL = 9;
    private static final int T_UNEQUAL = 10;
    private static final int T_MORE_EQUAL = 11;
    private static final int T_MORE = 12;
    private static final int T_PLUS = 13;
    private static final int T_MINUS = 14;
    private static final int T_TIMES = 15;
    private static final int T_BY = 16;
    private static final int W_FIRST = 20;
    private static final int W_VIEW = 20;
    private static final int W_FAR = 21;
    private static final int W_SUN = 22;
    private static final int W_MUSIC = 23;
    private static final int W_TAKEN = 24;
    private static final int W_FREE = 25;
    private static final int W_TICK = 26;
    // A name of a law and a line of its own: the last of those, the first of these.
    private static final int W_PRICE = 27;
    private static final int W_PLACE = 34;
    private static final int W_TIDE = 35;
    private static final int W_COME = 36;
    private static final int W_SKY = 37;
    private static final int W_BAND = 38;
    private static final int W_SIGN = 39;
    private static final int W_LAW = 40;
    private static final int W_SIT = 41;
    private static final int W_OR = 44;
    private static final int W_AND = 45;
    private static final int W_NOT = 46;
    private static final int WORD_COUNT = 27;
    private static final String WORDS =
            "view far sun music taken free tick price chairs wage carry wets canvas seed place tide come sky band sign law sit stay dodge or and not ";

    private static final int FAULT_TOKEN = 1;
    private static final int FAULT_MUCH = 2;
    private static final int FAULT_TWICE = 3;
    private static final int FAULT_UNTOLD = 4;

    private final Tokens tokens = new Tokens();
    private final Reader reader = new Reader(tokens);
    private final Terms asTold = new Terms();
    private final Terms otherwise = new Terms();
    private final Front front = new Front();
    private final Front scratch = new Front();
    private final Front image = new Front();
    private final Walk walk = new Walk(front, asTold);
    private final Walk trial = new Walk(scratch, otherwise);
    private final Deeds deeds = new Deeds();
    private final Book book = new Book();
    private final Order order = new Order();
    private Plan plan = new Plan();
    private Plan spare = new Plan();
    private boolean hasImage;

    public SkyChairs() {
        begin();
    }

    public int feed(int a, int b, int c, int d, int e) {
        if (tokens.tapeLength + 20 > MAX_TAPE) {
            return NONE;
        }
        tokens.append(a);
        tokens.append(b);
        tokens.append(c);
        tokens.append(d);
        tokens.append(e);
        return tokens.tapeLength;
    }

    public int text(int n) {
        if (n < 0 || n > tokens.tapeLength) {
            return -2;
        }
        boolean good = reader.readAll(spare, n);
        tokens.tapeLength = 0;
        if (!good) {
            return NONE;
        }
        Plan told = spare;
        spare = plan;
        plan = told;
        begin();
        return reader.lines;
    }

    public int fault(int what) {
        switch (what) {
            case 0:
                return reader.fault;
            case 1:
                return reader.faultAt;
            default:
                return NONE;
        }
    }

    public int named(int what, int letters) {
        switch (what) {
            case 0:
                return plan.placeNamed(letters);
            case 1:
                return plan.signNamed(letters);
            default:
                return NONE;
        }
    }

    public int look(int chair, int what) throws IndexOutOfBoundsException, NoSuchElementException {
        if (chair < 0 || chair >= front.chairs) {
            throw new IndexOutOfBoundsException("no such chair");
        }
        switch (what) {
            case 0:
                return front.status[chair];
            case 1:
                return front.where[chair];
            case 2:
                return front.wets[chair];
            case 3:
                return front.till[chair];
            case 4:
                return front.paid[chair];
            default:
                throw new NoSuchElementException("no such what");
        }
    }

    public int place(int place, int what) {
        if (!plan.hasPlace(place)) {
            return NONE;
        }
        switch (what) {
            case 0:
                return plan.view[place];
            case 1:
                return plan.far[place];
            case 2:
                return plan.tide[place];
            case 3:
                return front.out[place];
            case 4:
                return front.sat[place];
            default:
                return NONE;
        }
    }

    public int sky(int tick) {
        return tick < 0 || tick >= TICKS ? NONE : plan.skies[tick];
    }

    public long law(int what, int place) {
        if (what < 0 || what >= LAWS || !plan.hasPlace(place) || front.tick >= TICKS) {
            return ERROR;
        }
        return walk.valueOf(what, place);
    }

    public int put(int place, int n) {
        if (!plan.hasPlace(place) || n < 0 || n > MAX_CHAIRS) {
            return NONE;
        }
        int most = Math.min(n, plan.sets[SET_CARRY] - front.carried);
        long chairs = front.putOut(place, most);
        return carried(Deeds.PUT, place, chairs);
    }

    public int bring(int place, int n) {
        if (!plan.hasPlace(place) || n < 0 || n > MAX_CHAIRS) {
            return NONE;
        }
        int most = Math.min(n, plan.sets[SET_CARRY] - front.carried);
        long chairs = front.bringIn(place, most);
        return carried(Deeds.BROUGHT, place, chairs);
    }

    public boolean route(int n, long places) {
        if (n < 0 || n > MAX_ROUTE) {
            return false;
        }
        for (int i = 0; i < n; i++) {
            if (!plan.hasPlace((int) (places >> 4 * i) & 15)) {
                return false;
            }
        }
        deeds.noteRoute(front);
        front.setRoute(n, places);
        return true;
    }

    public int ticks(int n) {
        if (!hasRun(n)) {
            return NONE;
        }
        if (n > 0) {
            walk.advance(n);
            deeds.size = 0;
        }
        return front.tick;
    }

    public int sum(int what) {
        if (what == SUMS) {
            return front.balance(plan.sets[SET_CANVAS]);
        }
        return what < 0 || what > SUMS ? NONE : front.sums[what];
    }

    public int run(int n) {
        if (!hasRun(n)) {
            return NO_BALANCE;
        }
        prepare();
        return balanceAfter(n);
    }

    public int many(int place, int n, int what) {
        if (!plan.hasPlace(place) || !hasRun(n) || what < 0 || what > 1) {
            return NO_BALANCE;
        }
        int most = NO_BALANCE;
        int fewest = 0;
        for (int more = 0; more <= front.stacked; more++) {
            prepare();
            scratch.putOut(place, more);
            int balance = balanceAfter(n);
            if (balance > most) {
                most = balance;
                fewest = more;
            }
        }
        return what == 0 ? fewest : most;
    }

    public int when(int n, int what) {
        if (!hasRun(n) || what < 0 || what > 1) {
            return NO_BALANCE;
        }
        int most = NO_BALANCE;
        int first = front.tick;
        for (int tick = front.tick; tick <= front.tick + n; tick++) {
            prepare();
            otherwise.bringAt = tick;
            int balance = balanceAfter(n);
            if (balance > most) {
                most = balance;
                first = tick;
            }
        }
        return what == 0 ? first : most;
    }

    public int way(int n, int what) {
        if (!hasRun(n) || what < 0 || what > 1 || plan.placeCount == 0) {
            return NONE;
        }
        int most = NONE;
        int first = 0;
        order.start(plan.placeCount);
        for (int k = 0; k < Order.MOST; k++) {
            prepare();
            scratch.setRoute(plan.placeCount, order.packed());
            trial.advance(n);
            if (scratch.sums[SUM_COIN] > most) {
                most = scratch.sums[SUM_COIN];
                first = order.packed();
            }
            if (!order.step()) {
                break;
            }
        }
        return what == 0 ? most : first;
    }

    public int best(int n, int what) {
        if (!hasRun(n) || what < 0 || what > 1) {
            return NO_BALANCE;
        }
        int most = NO_BALANCE;
        int least = 0;
        for (int price = 0; price <= 20; price++) {
            prepare();
            otherwise.price = price;
            int balance = balanceAfter(n);
            if (balance > most) {
                most = balance;
                least = price;
            }
        }
        return what == 0 ? least : most;
    }

    public int second(int n) {
        if (!hasRun(n) || front.routeLength == 0) {
            return NO_BALANCE;
        }
        prepare();
        int alone = balanceAfter(n);
        prepare();
        otherwise.secondBoy = true;
        return balanceAfter(n) - alone - plan.sets[SET_WAGE];
    }

    public int gather(int what) {
        if (what < 0 || what > 2 || plan.placeCount == 0) {
            return NONE;
        }
        int saved = NONE;
        int walked = 0;
        int first = 0;
        order.start(plan.placeCount);
        for (int k = 0; k < Order.MOST; k++) {
            int saves = savedBy(order);
            int walks = walkOf(order);
            if (saves > saved || saves == saved && walks < walked) {
                saved = saves;
                walked = walks;
                first = order.packed();
            }
            if (!order.step()) {
                break;
            }
        }
        return what == 0 ? saved : what == 1 ? walked : first;
    }

    public int day(int signs, boolean rained) {
        if (signs < 0 || signs >= 1 << plan.signCount) {
            return NONE;
        }
        return book.addDay(signs, rained);
    }

    public int strike(int day) {
        return book.addStrike(day);
    }

    public boolean known(int n) {
        if (n < NONE || n > book.size) {
            return false;
        }
        book.knownBy = n;
        return true;
    }

    public int right(int sign) {
        return plan.hasSign(sign) ? book.rightOf(sign, sign, false) : NONE;
    }

    public int tells() {
        int most = NONE;
        int first = NONE;
        for (int sign = 0; sign < plan.signCount; sign++) {
            int rights = book.rightOf(sign, sign, false);
            if (rights > most) {
                most = rights;
                first = sign;
            }
        }
        return first;
    }

    public int joined(int one, int other, int how) {
        if (!plan.hasSign(one) || !plan.hasSign(other) || how < 0 || how > 1) {
            return NONE;
        }
        return book.rightOf(one, other, how == 1);
    }

    public int dodgers(int a, int b, int m, int what) {
        boolean counts = a >= 0 && a <= 999 && b >= 0 && b <= 999 && m >= 0 && m <= a && m <= b;
        if (!counts || what < 0 || what > 1) {
            return NONE;
        }
        if (what == 0) {
            return a + b - m;
        }
        return m == 0 ? -2 : a * b / m;
    }

    public int tried(int what, int i, int n) {
        if (!hasRun(n) || !canTry(what, i)) {
            return NO_BALANCE;
        }
        prepare();
        otherwise.change(what, i);
        return balanceAfter(n);
    }

    public int chance(int seed, int n, int w) {
        if (seed < 0 || !hasRun(n)) {
            return NONE;
        }
        int good = 0;
        long last = seed;
        for (int k = 0; k < 10; k++) {
            last = Front.following(last);
            prepare();
            scratch.last = Front.numberOf(last);
            if (balanceAfter(n) >= w) {
                good++;
            }
        }
        return good;
    }

    public int undo() {
        if (deeds.size == 0) {
            return NONE;
        }
        deeds.takeBack(front);
        return deeds.size;
    }

    public int keep() {
        image.copyFrom(front);
        hasImage = true;
        return front.tick;
    }

    public int back() {
        if (!hasImage) {
            return NONE;
        }
        front.copyFrom(image);
        deeds.size = 0;
        return front.tick;
    }

    public int count(int what) {
        switch (what) {
            case 0:
                return plan.placeCount;
            case 1:
                return front.chairs;
            case 2:
                return plan.comeCount;
            case 3:
                return plan.signCount;
            case 4:
                return plan.knots;
            case 5:
                return front.tick;
            case 6:
                return book.size;
            case 7:
                return book.knownCount();
            case 8:
                return deeds.size;
            case 9:
                return front.stacked;
            default:
                return NONE;
        }
    }

    private void begin() {
        walk.plan = plan;
        trial.plan = plan;
        asTold.clear(plan.sets[SET_PRICE]);
        front.clear(plan.sets[SET_CHAIRS], plan.sets[SET_SEED]);
        deeds.size = 0;
        book.size = 0;
        book.knownBy = NONE;
        hasImage = false;
    }

    private static boolean isNameOfLaw(int kind) {
        return kind >= W_VIEW && kind <= W_PRICE;
    }

    private boolean hasRun(int n) {
        return n >= 0 && n <= TICKS - front.tick;
    }

    private void prepare() {
        scratch.copyFrom(front);
        otherwise.clear(plan.sets[SET_PRICE]);
    }

    private int balanceAfter(int n) {
        trial.advance(n);
        return scratch.balance(plan.sets[SET_CANVAS]);
    }

    private int carried(int kind, int place, long chairs) {
        int moved = Long.bitCount(chairs);
        if (moved > 0) {
            front.carried += moved;
            deeds.noteChairs(kind, place, chairs);
        }
        return moved;
    }

    private boolean canTry(int what, int i) {
        switch (what) {
            case Terms.NO_RAIN:
            case Terms.NO_BANDS:
            case Terms.NO_DODGE:
            case Terms.NO_WETS:
                return i == 0;
            case Terms.SHUT:
                return plan.hasPlace(i);
            case Terms.ABSENT:
                return i >= 0 && i < plan.comeCount;
            default:
                return false;
        }
    }

    private int savedBy(Order by) {
        int saved = 0;
        for (int i = 0; i < by.length; i++) {
            int place = by.items[i];
            if (!plan.isFlooded(place, front.tick + i)) {
                saved += front.out[place];
            }
        }
        return saved;
    }

    private int walkOf(Order by) {
        int walked = 0;
        int at = 0;
        for (int i = 0; i < by.length; i++) {
            int far = plan.far[by.items[i]];
            walked += Math.abs(far - at);
            at = far;
        }
        return walked;
    }

    /** The tape and the tokens on it. */
    private static final class Tokens {
        private static final int MAX_LETTERS = 6;
        // Above every number that a text may tell, so that long rows of digits don't wrap round.
        private static final int HUGE = 1000000;

        final byte[] tape = new byte[MAX_TAPE];
        final int[] words = new int[WORD_COUNT];
        int tapeLength;
        int length;
        int at;
        int start;
        int kind;
        int value;

        Tokens() {
            int word = 0;
            int from = 0;
            for (int i = 0; i < WORDS.length() && word < WORD_COUNT; i++) {
                if (WORDS.charAt(i) != ' ') {
                    words[word] |= letterAt(WORDS.charAt(i), i - from);
                } else {
                    word++;
                    from = i + 1;
                }
            }
        }

        private static int letterAt(int letter, int index) {
            return letter - 'a' + 1 << 5 * (MAX_LETTERS - 1 - index);
        }

        void append(int four) {
            for (int shift = 24; shift >= 0 && tapeLength < MAX_TAPE; shift -= 8) {
                tape[tapeLength] = (byte) (four >> shift);
                tapeLength++;
            }
        }

        void start(int n) {
            length = Math.min(n, tapeLength);
            at = 0;
            advance();
        }

        void advance() {
            while (at < length && (tape[at] == ' ' || tape[at] == 10)) {
                at++;
            }
            start = at;
            value = 0;
            if (at >= length) {
                kind = T_END;
            } else if (isLetter(tape[at])) {
                readWord();
            } else if (isDigit(tape[at])) {
                readNumber();
            } else {
                readMark(tape[at]);
            }
        }

        private static boolean isLetter(int sign) {
            return sign >= 'a' && sign <= 'z';
        }

        private static boolean isDigit(int sign) {
            return sign >= '0' && sign <= '9';
        }

        private void readWord() {
            int letters = 0;
            while (at < length && isLetter(tape[at])) {
                if (letters < MAX_LETTERS) {
                    value |= letterAt(tape[at], letters);
                }
                letters++;
                at++;
            }
            kind = letters > MAX_LETTERS ? T_BAD : wordKind();
        }

        private int wordKind() {
            for (int i = 0; i < WORD_COUNT; i++) {
                if (words[i] == value) {
                    return W_FIRST + i;
                }
            }
            return T_NAME;
        }

        private void readNumber() {
            while (at < length && isDigit(tape[at])) {
                value = Math.min(HUGE, value * 10 + tape[at] - '0');
                at++;
            }
            kind = T_NUMBER;
        }

        private void readMark(int sign) {
            at++;
            if (sign == '<' || sign == '>') {
                kind = comparison(sign, at < length ? tape[at] : ' ');
                if (kind != T_LESS && kind != T_MORE) {
                    at++;
                }
            } else {
                kind = markKind(sign);
            }
        }

        private static int comparison(int sign, int behind) {
            if (sign == '>') {
                return behind == '=' ? T_MORE_EQUAL : T_MORE;
            }
            return behind == '=' ? T_LESS_EQUAL : behind == '>' ? T_UNEQUAL : T_LESS;
        }

        private static int markKind(int sign) {
            switch (sign) {
                case ';':
                    return T_SEMICOLON;
                case '(':
                    return T_OPEN;
                case ')':
                    return T_CLOSE;
                case '=':
                    return T_EQUAL;
                case '+':
                    return T_PLUS;
                case '-':
                    return T_MINUS;
                case '*':
                    return T_TIMES;
                case '/':
                    return T_BY;
                default:
                    return T_BAD;
            }
        }
    }

    /** What a text tells. */
    private static final class Plan {
        int placeCount;
        final int[] placeNames = new int[MAX_PLACES];
        final int[] view = new int[MAX_PLACES];
        final int[] far = new int[MAX_PLACES];
        final int[] tide = new int[MAX_PLACES];
        int comeCount;
        final int[] comeTick = new int[MAX_COMES];
        final int[] comeSize = new int[MAX_COMES];
        // While a text is read NONE where no sky is told; then the sky of each tick.
        final int[] skies = new int[TICKS];
        int bandCount;
        final int[] bandPlace = new int[MAX_BANDS];
        final int[] bandFrom = new int[MAX_BANDS];
        final int[] bandTo = new int[MAX_BANDS];
        final int[] sets = new int[SETS];
        int signCount;
        final int[] signNames = new int[MAX_SIGNS];
        int knots;
        // The laws behind one another, operands ahead of what joins them: a number as it is,
        // a name or a joining token as its kind below 0.
        final int[] code = new int[MAX_KNOTS];
        final int[] lawFrom = new int[LAWS];
        final int[] lawTo = new int[LAWS];

        Plan() {
            clear();
            settleSkies();
        }

        void clear() {
            placeCount = 0;
            comeCount = 0;
            bandCount = 0;
            signCount = 0;
            knots = 0;
            Arrays.fill(skies, NONE);
            Arrays.fill(lawFrom, NONE);
            Arrays.fill(lawTo, NONE);
            System.arraycopy(SET_PLAIN, 0, sets, 0, SETS);
        }

        void settleSkies() {
            int sky = SUN;
            for (int tick = 0; tick < TICKS; tick++) {
                if (skies[tick] != NONE) {
                    sky = skies[tick];
                }
                skies[tick] = sky;
            }
        }

        boolean hasPlace(int place) {
            return place >= 0 && place < placeCount;
        }

        boolean hasSign(int sign) {
            return sign >= 0 && sign < signCount;
        }

        boolean hasLaw(int law) {
            return law >= 0 && law < LAWS && lawFrom[law] != NONE;
        }

        int placeNamed(int letters) {
            for (int place = 0; place < placeCount; place++) {
                if (placeNames[place] == letters) {
                    return place;
                }
            }
            return NONE;
        }

        int signNamed(int letters) {
            for (int sign = 0; sign < signCount; sign++) {
                if (signNames[sign] == letters) {
                    return sign;
                }
            }
            return NONE;
        }

        boolean isFlooded(int place, int tick) {
            return hasPlace(place) && tide[place] != NONE && tide[place] <= tick;
        }

        boolean hasBand(int place, int tick) {
            for (int band = 0; band < bandCount; band++) {
                if (bandPlace[band] == place && bandFrom[band] <= tick && tick <= bandTo[band]) {
                    return true;
                }
            }
            return false;
        }

        int comersOn(int tick, int absent) {
            int comers = 0;
            for (int come = 0; come < comeCount; come++) {
                if (comeTick[come] == tick && come != absent) {
                    comers += comeSize[come];
                }
            }
            return comers;
        }
    }

    /** Reads a text into a plan, up to its first fault. */
    private static final class Reader {
        private static final int RANK_OPEN = 0;
        private static final int RANK_OR = 1;
        private static final int RANK_AND = 2;
        private static final int RANK_NOT = 3;
        private static final int RANK_COMPARE = 4;
        private static final int RANK_SUM = 5;
        private static final int RANK_PRODUCT = 6;

        private final Tokens tokens;
        private final int[] told = new int[SETS];
        // What joins and open brackets, waiting for what stands right of them, and how close each binds.
        private final int[] joints = new int[MAX_KNOTS + MAX_OPEN];
        private final int[] ranks = new int[MAX_KNOTS + MAX_OPEN];
        private int jointCount;
        private int open;
        private int written;
        private int skyCount;
        private Plan plan;
        int lines;
        int fault;
        int faultAt = NONE;

        Reader(Tokens tokens) {
            this.tokens = tokens;
        }

        boolean readAll(Plan into, int n) {
            plan = into;
            plan.clear();
            Arrays.fill(told, 0);
            written = 0;
            skyCount = 0;
            lines = 0;
            fault = 0;
            faultAt = NONE;
            tokens.start(n);
            for (int k = 0; k < MAX_TAPE && tokens.kind != T_END; k++) {
                if (!readLine() || !pass(T_SEMICOLON)) {
                    return false;
                }
                lines++;
            }
            plan.settleSkies();
            return true;
        }

        private boolean fail(int what) {
            fault = what;
            faultAt = tokens.start;
            return false;
        }

        private boolean pass(int kind) {
            if (tokens.kind != kind) {
                return fail(FAULT_TOKEN);
            }
            tokens.advance();
            return true;
        }

        private boolean readLine() {
            switch (tokens.kind) {
                case W_PLACE:
                    return readPlace();
                case W_COME:
                    return readCome();
                case W_SKY:
                    return readSky();
                case W_BAND:
                    return readBand();
                case W_SIGN:
                    return readSign();
                case W_LAW:
                    return readLaw();
                default:
                    return readSet(tokens.kind - W_PRICE);
            }
        }

        /** Goes by the word of a line of which there may be no more than so many. */
        private boolean passWord(int count, int most) {
            if (count >= most) {
                return fail(FAULT_MUCH);
            }
            tokens.advance();
            return true;
        }

        /** The number that comes next; NONE with a fault. */
        private int number(int low, int high) {
            if (tokens.kind != T_NUMBER) {
                fail(FAULT_TOKEN);
                return NONE;
            }
            if (tokens.value < low || tokens.value > high) {
                fail(FAULT_MUCH);
                return NONE;
            }
            int value = tokens.value;
            tokens.advance();
            return value;
        }

        private boolean readPlace() {
            int place = plan.placeCount;
            if (!passWord(place, MAX_PLACES)) {
                return false;
            }
            if (tokens.kind != T_NAME) {
                return fail(FAULT_TOKEN);
            }
            if (plan.placeNamed(tokens.value) != NONE) {
                return fail(FAULT_TWICE);
            }
            plan.placeNames[place] = tokens.value;
            tokens.advance();
            plan.view[place] = number(0, 99);
            if (plan.view[place] == NONE) {
                return false;
            }
            plan.far[place] = number(0, 99);
            if (plan.far[place] == NONE) {
                return false;
            }
            plan.tide[place] = NONE;
            plan.placeCount++;
            if (tokens.kind != W_TIDE) {
                return true;
            }
            tokens.advance();
            plan.tide[place] = number(0, TICKS - 1);
            return plan.tide[place] != NONE;
        }

        private boolean readCome() {
            int come = plan.comeCount;
            if (!passWord(come, MAX_COMES)) {
                return false;
            }
            plan.comeTick[come] = number(0, TICKS - 1);
            if (plan.comeTick[come] == NONE) {
                return false;
            }
            plan.comeSize[come] = number(1, 20);
            plan.comeCount++;
            return plan.comeSize[come] != NONE;
        }

        private boolean readSky() {
            if (!passWord(skyCount, MAX_SKIES)) {
                return false;
            }
            if (tokens.kind == T_NUMBER && tokens.value < TICKS && plan.skies[tokens.value] != NONE) {
                return fail(FAULT_TWICE);
            }
            int tick = number(0, TICKS - 1);
            if (tick == NONE) {
                return false;
            }
            plan.skies[tick] = number(SUN, RAIN);
            skyCount++;
            return plan.skies[tick] != NONE;
        }

        private boolean readBand() {
            int band = plan.bandCount;
            if (!passWord(band, MAX_BANDS)) {
                return false;
            }
            if (tokens.kind != T_NAME) {
                return fail(FAULT_TOKEN);
            }
            plan.bandPlace[band] = plan.placeNamed(tokens.value);
            if (plan.bandPlace[band] == NONE) {
                return fail(FAULT_UNTOLD);
            }
            tokens.advance();
            plan.bandFrom[band] = number(0, TICKS - 1);
            if (plan.bandFrom[band] == NONE) {
                return false;
            }
            plan.bandTo[band] = number(plan.bandFrom[band], TICKS - 1);
            plan.bandCount++;
            return plan.bandTo[band] != NONE;
        }

        private boolean readSign() {
            int sign = plan.signCount;
            if (!passWord(sign, MAX_SIGNS)) {
                return false;
            }
            if (tokens.kind != T_NAME) {
                return fail(FAULT_TOKEN);
            }
            if (plan.signNamed(tokens.value) != NONE) {
                return fail(FAULT_TWICE);
            }
            plan.signNames[sign] = tokens.value;
            plan.signCount++;
            tokens.advance();
            return true;
        }

        private boolean readSet(int set) {
            if (set < 0 || set >= SETS) {
                return fail(FAULT_TOKEN);
            }
            if (told[set] != 0) {
                return fail(FAULT_TWICE);
            }
            told[set] = 1;
            tokens.advance();
            plan.sets[set] = number(SET_LOW[set], SET_HIGH[set]);
            return plan.sets[set] != NONE;
        }

        private boolean readLaw() {
            tokens.advance();
            int law = tokens.kind - W_SIT;
            if (law < 0 || law >= LAWS) {
                return fail(FAULT_TOKEN);
            }
            if (plan.hasLaw(law)) {
                return fail(FAULT_TWICE);
            }
            tokens.advance();
            plan.lawFrom[law] = written;
            if (!readFormula()) {
                return false;
            }
            plan.lawTo[law] = written;
            return true;
        }

        /** Reads tokens up to the semicolon that ends the law. */
        private boolean readFormula() {
            jointCount = 0;
            open = 0;
            boolean wanted = true;
            for (int k = 0; k < MAX_TAPE; k++) {
                int kind = tokens.kind;
                if (wanted) {
                    if (!readOperand()) {
                        return false;
                    }
                    wanted = kind == W_NOT || kind == T_OPEN;
                } else if (kind == T_SEMICOLON && open == 0) {
                    writeJoints(RANK_OPEN);
                    return true;
                } else {
                    if (!readJoint()) {
                        return false;
                    }
                    wanted = kind != T_CLOSE;
                }
                tokens.advance();
            }
            return fail(FAULT_TOKEN);
        }

        private boolean readOperand() {
            int kind = tokens.kind;
            if (kind == T_NUMBER) {
                if (tokens.value > 9999) {
                    return fail(FAULT_MUCH);
                }
                return countKnot() && write(tokens.value);
            }
            if (isNameOfLaw(kind)) {
                return countKnot() && write(-kind);
            }
            if (kind == W_NOT && topRank() <= RANK_NOT) {
                return countKnot() && push(kind, RANK_NOT);
            }
            if (kind != T_OPEN) {
                return fail(FAULT_TOKEN);
            }
            if (open >= MAX_OPEN) {
                return fail(FAULT_MUCH);
            }
            open++;
            return push(kind, RANK_OPEN);
        }

        private boolean readJoint() {
            if (tokens.kind == T_CLOSE && open > 0) {
                writeJoints(RANK_OPEN);
                open--;
                jointCount = Math.max(0, jointCount - 1);
                return true;
            }
            int rank = rankOf(tokens.kind);
            if (rank == NONE) {
                return fail(FAULT_TOKEN);
            }
            // Joints of one rank bind from the left, but a comparison stands alone.
            writeJoints(rank == RANK_COMPARE ? rank : rank - 1);
            if (topRank() == rank) {
                return fail(FAULT_TOKEN);
            }
            return countKnot() && push(tokens.kind, rank);
        }

        private boolean countKnot() {
            if (plan.knots >= MAX_KNOTS) {
                return fail(FAULT_MUCH);
            }
            plan.knots++;
            return true;
        }

        private boolean push(int kind, int rank) {
            if (jointCount >= joints.length) {
                return fail(FAULT_MUCH);
            }
            joints[jointCount] = kind;
            ranks[jointCount] = rank;
            jointCount++;
            return true;
        }

        /** There is always room: no more is written than knots are counted. */
        private boolean write(int item) {
            if (written < MAX_KNOTS) {
                plan.code[written] = item;
                written++;
            }
            return true;
        }

        /** Writes the waiting joints that bind closer than the rank, back to an open bracket. */
        private void writeJoints(int above) {
            for (int k = 0; k < joints.length && topRank() > above; k++) {
                jointCount--;
                write(-joints[jointCount]);
            }
        }

        private int topRank() {
            return jointCount == 0 ? RANK_OPEN : ranks[jointCount - 1];
        }

        /** How close what joins two sides binds; NONE for what doesn't. */
        private static int rankOf(int kind) {
            switch (kind) {
                case W_OR:
                    return RANK_OR;
                case W_AND:
                    return RANK_AND;
                case T_PLUS:
                case T_MINUS:
                    return RANK_SUM;
                case T_TIMES:
                case T_BY:
                    return RANK_PRODUCT;
                default:
                    return kind >= T_LESS && kind <= T_MORE ? RANK_COMPARE : NONE;
            }
        }
    }

    /** What a run has otherwise than it is told. */
    private static final class Terms {
        // Numbered as tried() asks for them.
        static final int NO_RAIN = 0;
        static final int NO_BANDS = 1;
        static final int NO_DODGE = 2;
        static final int SHUT = 3;
        static final int NO_WETS = 4;
        static final int ABSENT = 5;

        int price;
        boolean secondBoy;
        int bringAt;
        boolean noRain;
        boolean noBands;
        boolean noDodge;
        boolean noWets;
        int shut;
        int absent;

        void clear(int toldPrice) {
            price = toldPrice;
            secondBoy = false;
            bringAt = NONE;
            noRain = false;
            noBands = false;
            noDodge = false;
            noWets = false;
            shut = NONE;
            absent = NONE;
        }

        void change(int what, int i) {
            noRain = what == NO_RAIN;
            noBands = what == NO_BANDS;
            noDodge = what == NO_DODGE;
            noWets = what == NO_WETS;
            shut = what == SHUT ? i : NONE;
            absent = what == ABSENT ? i : NONE;
        }
    }

    /** The front as it is at one time: chairs, route, numbers, sums. */
    private static final class Front {
        final int[] status = new int[MAX_CHAIRS];
        final int[] where = new int[MAX_CHAIRS];
        final int[] wets = new int[MAX_CHAIRS];
        final int[] till = new int[MAX_CHAIRS];
        final int[] paid = new int[MAX_CHAIRS];
        final int[] out = new int[MAX_PLACES];
        final int[] sat = new int[MAX_PLACES];
        final int[] sums = new int[SUMS];
        int chairs;
        int stacked;
        int tick;
        int carried;
        int routeLength;
        int routeFrom;
        long routePlaces;
        long last;

        void clear(int toldChairs, int seed) {
            Arrays.fill(status, STACKED);
            Arrays.fill(where, NONE);
            Arrays.fill(wets, 0);
            Arrays.fill(till, NONE);
            Arrays.fill(paid, 0);
            Arrays.fill(out, 0);
            Arrays.fill(sat, 0);
            Arrays.fill(sums, 0);
            chairs = toldChairs;
            stacked = toldChairs;
            tick = 0;
            carried = 0;
            setRoute(0, 0);
            last = seed;
        }

        void copyFrom(Front other) {
            System.arraycopy(other.status, 0, status, 0, MAX_CHAIRS);
            System.arraycopy(other.where, 0, where, 0, MAX_CHAIRS);
            System.arraycopy(other.wets, 0, wets, 0, MAX_CHAIRS);
            System.arraycopy(other.till, 0, till, 0, MAX_CHAIRS);
            System.arraycopy(other.paid, 0, paid, 0, MAX_CHAIRS);
            System.arraycopy(other.out, 0, out, 0, MAX_PLACES);
            System.arraycopy(other.sat, 0, sat, 0, MAX_PLACES);
            System.arraycopy(other.sums, 0, sums, 0, SUMS);
            chairs = other.chairs;
            stacked = other.stacked;
            tick = other.tick;
            carried = other.carried;
            routeLength = other.routeLength;
            routeFrom = other.routeFrom;
            routePlaces = other.routePlaces;
            last = other.last;
        }

        /** The state of the numbers behind this one. */
        static long following(long state) {
            return state * 1103515245L + 12345L & 0x7FFFFFFFL;
        }

        static long numberOf(long state) {
            return state >> 16;
        }

        void setRoute(int length, long places) {
            routeLength = length;
            routePlaces = places;
            routeFrom = tick;
        }

        int balance(int canvas) {
            return sums[SUM_COIN] - canvas * sums[SUM_LOST];
        }

        private static boolean isPlace(int place) {
            return place >= 0 && place < MAX_PLACES;
        }

        /** Puts so many stacked chairs out, the least first: which ones, as bits. */
        long putOut(int place, int most) {
            long moved = 0;
            int left = most;
            for (int chair = 0; chair < chairs && left > 0; chair++) {
                if (status[chair] == STACKED) {
                    setOut(chair, place);
                    moved |= 1L << chair;
                    left--;
                }
            }
            return moved;
        }

        /** Brings in so many of those that are out at a place, the least first: which ones, as bits. */
        long bringIn(int place, int most) {
            long moved = 0;
            int left = most;
            for (int chair = 0; chair < chairs && left > 0; chair++) {
                if (status[chair] == OUT && where[chair] == place) {
                    setStacked(chair);
                    moved |= 1L << chair;
                    left--;
                }
            }
            return moved;
        }

        void bringAll() {
            for (int chair = 0; chair < chairs; chair++) {
                setStacked(chair);
            }
        }

        void setOut(int chair, int place) {
            if (status[chair] == STACKED && isPlace(place)) {
                status[chair] = OUT;
                where[chair] = place;
                out[place]++;
                stacked--;
            }
        }

        void setStacked(int chair) {
            if (status[chair] == OUT && isPlace(where[chair])) {
                out[where[chair]]--;
                stacked++;
                status[chair] = STACKED;
                where[chair] = NONE;
            }
        }

        void seatOne(int place, int tillTick) {
            for (int chair = 0; chair < chairs; chair++) {
                if (status[chair] == OUT && where[chair] == place && isPlace(place)) {
                    status[chair] = SAT;
                    till[chair] = tillTick;
                    out[place]--;
                    sat[place]++;
                    return;
                }
            }
        }

        /** The sitter goes, if there is one. */
        void unseat(int chair) {
            if (status[chair] == SAT && isPlace(where[chair])) {
                sums[SUM_MISSED] += 1 - paid[chair];
                status[chair] = OUT;
                till[chair] = NONE;
                paid[chair] = 0;
                sat[where[chair]]--;
                out[where[chair]]++;
            }
        }

        void lose(int chair) {
            unseat(chair);
            if (status[chair] == OUT && isPlace(where[chair])) {
                out[where[chair]]--;
                status[chair] = LOST;
                where[chair] = NONE;
                sums[SUM_LOST]++;
            }
        }

        void loseAll(int place) {
            for (int chair = 0; chair < chairs; chair++) {
                if (where[chair] == place) {
                    lose(chair);
                }
            }
        }
    }

    /** Lets ticks go by on a front. */
    private static final class Walk {
        private static final long LIMIT = 1000000000000L;
        private static final int PLAIN_STAY = 8;

        private final Front front;
        private final Terms terms;
        private final long[] stack = new long[MAX_KNOTS];
        // What sitters see in each place that has a chair for them.
        private final long[] worths = new long[MAX_PLACES];
        Plan plan;

        Walk(Front front, Terms terms) {
            this.front = front;
            this.terms = terms;
        }

        void advance(int n) {
            for (int k = 0; k < n && front.tick < TICKS; k++) {
                if (terms.bringAt == front.tick) {
                    front.bringAll();
                }
                letTideCome();
                boolean rains = skyNow() == RAIN;
                if (rains) {
                    letRainFall();
                }
                letSittersGo();
                if (!rains) {
                    letSittersCome();
                }
                goRound();
                front.tick++;
                front.carried = 0;
            }
        }

        private int skyNow() {
            int tick = front.tick;
            int sky = tick >= 0 && tick < TICKS ? plan.skies[tick] : SUN;
            return sky == RAIN && terms.noRain ? CLOUD : sky;
        }

        private void letTideCome() {
            for (int place = 0; place < plan.placeCount; place++) {
                if (front.out[place] + front.sat[place] > 0 && plan.isFlooded(place, front.tick)) {
                    front.loseAll(place);
                }
            }
        }

        private void letRainFall() {
            for (int chair = 0; chair < front.chairs; chair++) {
                if (front.status[chair] == OUT || front.status[chair] == SAT) {
                    front.unseat(chair);
                    if (!terms.noWets) {
                        wet(chair);
                    }
                }
            }
        }

        private void wet(int chair) {
            front.wets[chair]++;
            if (front.wets[chair] >= plan.sets[SET_WETS]) {
                front.lose(chair);
                front.sums[SUM_ROTTEN]++;
            }
        }

        private void letSittersGo() {
            for (int chair = 0; chair < front.chairs; chair++) {
                if (front.status[chair] == SAT && front.till[chair] == front.tick) {
                    front.unseat(chair);
                }
            }
        }

        private void letSittersCome() {
            int comers = plan.comersOn(front.tick, terms.absent);
            for (int place = 0; place < plan.placeCount && comers > 0; place++) {
                weigh(place);
            }
            for (int k = 0; k < comers; k++) {
                int place = dearestPlace();
                if (place == NONE) {
                    // Nothing changes for those who come behind.
                    front.sums[SUM_WALL] += comers - k;
                    return;
                }
                front.seatOne(place, front.tick + stayAt(place));
                // What a place is worth hangs on no other place.
                weigh(place);
            }
        }

        private void weigh(int place) {
            if (front.out[place] > 0) {
                long worth = plan.hasLaw(LAW_SIT) ? valueOf(LAW_SIT, place) : plan.view[place];
                worths[place] = worth == ERROR ? 0 : worth;
            }
        }

        private int dearestPlace() {
            int dearest = NONE;
            for (int place = 0; place < plan.placeCount; place++) {
                boolean open = front.out[place] > 0 && place != terms.shut;
                if (open && (dearest == NONE || worths[place] > worths[dearest])) {
                    dearest = place;
                }
            }
            return dearest;
        }

        private int stayAt(int place) {
            long stay = valueOf(LAW_STAY, place);
            return stay == ERROR ? PLAIN_STAY : (int) Math.max(1, Math.min(TICKS - 1, stay));
        }

        private void goRound() {
            int length = front.routeLength;
            if (length <= 0) {
                return;
            }
            int turn = Math.floorMod(front.tick - front.routeFrom, length);
            askAt((int) (front.routePlaces >> 4 * turn) & 15);
            if (terms.secondBoy) {
                askAt((int) (front.routePlaces >> 4 * (length - 1 - turn)) & 15);
            }
        }

        private void askAt(int place) {
            if (!plan.hasPlace(place) || front.sat[place] == 0) {
                return;
            }
            long dodge = terms.noDodge ? 0 : valueOf(LAW_DODGE, place);
            for (int chair = 0; chair < front.chairs; chair++) {
                if (front.status[chair] == SAT && front.where[chair] == place && front.paid[chair] == 0) {
                    front.last = Front.following(front.last);
                    // An error is below every number, so nobody dodges then.
                    if (Front.numberOf(front.last) % 100 < dodge) {
                        front.sums[SUM_DODGES]++;
                    } else {
                        front.paid[chair] = 1;
                        front.sums[SUM_PAID]++;
                        front.sums[SUM_COIN] += terms.price;
                    }
                }
            }
        }

        /** A law's value at a place on the front's tick; ERROR, too, without such a law. */
        long valueOf(int law, int place) {
            if (!plan.hasLaw(law) || !plan.hasPlace(place)) {
                return ERROR;
            }
            int height = 0;
            for (int k = plan.lawFrom[law]; k < plan.lawTo[law]; k++) {
                int item = plan.code[k];
                if (item >= 0 || isNameOfLaw(-item)) {
                    if (height >= MAX_KNOTS) {
                        return ERROR;
                    }
                    stack[height] = item >= 0 ? item : nameValue(-item, place);
                    height++;
                } else if (item == -W_NOT && height >= 1) {
                    stack[height - 1] = stack[height - 1] == 0 ? 1 : 0;
                } else if (height >= 2) {
                    height--;
                    long value = join(-item, stack[height - 1], stack[height]);
                    if (value == ERROR) {
                        return ERROR;
                    }
                    stack[height - 1] = value;
                }
            }
            return height == 1 ? stack[0] : ERROR;
        }

        private long nameValue(int kind, int place) {
            switch (kind) {
                case W_VIEW:
                    return plan.view[place];
                case W_FAR:
                    return plan.far[place];
                case W_SUN:
                    return skyNow() == SUN ? 1 : 0;
                case W_MUSIC:
                    return !terms.noBands && plan.hasBand(place, front.tick) ? 1 : 0;
                case W_TAKEN:
                    return front.sat[place];
                case W_FREE:
                    return front.out[place];
                case W_TICK:
                    return front.tick;
                default:
                    return terms.price;
            }
        }

        private static long join(int kind, long left, long right) {
            switch (kind) {
                case W_OR:
                    return left != 0 || right != 0 ? 1 : 0;
                case W_AND:
                    return left != 0 && right != 0 ? 1 : 0;
                case T_LESS:
                    return left < right ? 1 : 0;
                case T_LESS_EQUAL:
                    return left <= right ? 1 : 0;
                case T_EQUAL:
                    return left == right ? 1 : 0;
                case T_UNEQUAL:
                    return left != right ? 1 : 0;
                case T_MORE_EQUAL:
                    return left >= right ? 1 : 0;
                case T_MORE:
                    return left > right ? 1 : 0;
                case T_PLUS:
                    return Math.abs(left + right) > LIMIT ? ERROR : left + right;
                case T_MINUS:
                    return Math.abs(left - right) > LIMIT ? ERROR : left - right;
                case T_TIMES:
                    // Both are within the limit, but their product may not even be a long.
                    boolean beyond = left != 0 && Math.abs(right) > LIMIT / Math.abs(left);
                    return beyond ? ERROR : left * right;
                default:
                    return right == 0 ? ERROR : left / right;
            }
        }
    }

    /** What was done since the last tick and can be undone. */
    private static final class Deeds {
        static final int PUT = 0;
        static final int BROUGHT = 1;
        static final int ROUTED = 2;

        private final int[] kinds = new int[MAX_UNDO];
        // The place of the chairs, or the length of the route ahead.
        private final int[] places = new int[MAX_UNDO];
        private final int[] routeFroms = new int[MAX_UNDO];
        // The chairs moved, or the places of the route ahead.
        private final long[] bits = new long[MAX_UNDO];
        int size;

        void noteChairs(int kind, int place, long chairs) {
            makeRoom();
            kinds[size] = kind;
            places[size] = place;
            bits[size] = chairs;
            size++;
        }

        void noteRoute(Front front) {
            makeRoom();
            kinds[size] = ROUTED;
            places[size] = front.routeLength;
            routeFroms[size] = front.routeFrom;
            bits[size] = front.routePlaces;
            size++;
        }

        private void makeRoom() {
            if (size < MAX_UNDO) {
                return;
            }
            size = MAX_UNDO - 1;
            System.arraycopy(kinds, 1, kinds, 0, size);
            System.arraycopy(places, 1, places, 0, size);
            System.arraycopy(routeFroms, 1, routeFroms, 0, size);
            System.arraycopy(bits, 1, bits, 0, size);
        }

        void takeBack(Front front) {
            if (size == 0) {
                return;
            }
            size--;
            if (kinds[size] == ROUTED) {
                front.setRoute(places[size], bits[size]);
                front.routeFrom = routeFroms[size];
                return;
            }
            for (int chair = 0; chair < front.chairs; chair++) {
                if ((bits[size] >> chair & 1) == 1) {
                    if (kinds[size] == PUT) {
                        front.setStacked(chair);
                    } else {
                        front.setOut(chair, places[size]);
                    }
                }
            }
            front.carried -= Long.bitCount(bits[size]);
        }
    }

    /** Days with their signs, and strikes of what is written ahead. */
    private static final class Book {
        private static final int NO_STRIKE = -1;

        private final int[] signs = new int[MAX_DAYS];
        private final boolean[] rained = new boolean[MAX_DAYS];
        private final int[] strikes = new int[MAX_DAYS];
        private final int[] struck = new int[MAX_DAYS];
        int size;
        int knownBy = NONE;

        int addDay(int which, boolean rain) {
            return write(which, rain, NO_STRIKE);
        }

        int addStrike(int number) {
            return number < 0 || number >= size ? NONE : write(0, false, number);
        }

        private int write(int which, boolean rain, int struckOne) {
            if (size >= MAX_DAYS) {
                return NONE;
            }
            signs[size] = which;
            rained[size] = rain;
            strikes[size] = struckOne;
            size++;
            return size - 1;
        }

        int knownCount() {
            return knownBy == NONE ? size : Math.min(knownBy, size);
        }

        /** On how many known days both signs, or either, were there just if it rained. */
        int rightOf(int one, int other, boolean either) {
            int rights = 0;
            Arrays.fill(struck, 0);
            // From the last one on: what strikes an item is written behind it and so settled ahead of it.
            for (int i = knownCount() - 1; i >= 0; i--) {
                if (struck[i] != 0) {
                    continue;
                }
                if (strikes[i] >= 0 && strikes[i] < i) {
                    struck[strikes[i]] = 1;
                } else if (isThere(signs[i], one, other, either) == rained[i]) {
                    rights++;
                }
            }
            return rights;
        }

        private static boolean isThere(int signs, int one, int other, boolean either) {
            boolean first = (signs >> one & 1) == 1;
            boolean second = (signs >> other & 1) == 1;
            return either ? first || second : first && second;
        }
    }

    /** The orders of all places, the first by places first. */
    private static final class Order {
        // No more orders than of five.
        static final int MOST = 120;

        final int[] items = new int[MAX_PLACES];
        int length;

        void start(int n) {
            length = Math.max(0, Math.min(n, MAX_PLACES));
            for (int i = 0; i < length; i++) {
                items[i] = i;
            }
        }

        /** Goes on to the next order; false: that was the last. */
        boolean step() {
            int rise = length - 2;
            while (rise >= 0 && items[rise] > items[rise + 1]) {
                rise--;
            }
            if (rise < 0) {
                return false;
            }
            int above = length - 1;
            while (above > rise && items[above] < items[rise]) {
                above--;
            }
            swap(rise, above);
            for (int low = rise + 1, high = length - 1; low < high; low++, high--) {
                swap(low, high);
            }
            return true;
        }

        private void swap(int i, int j) {
            int item = items[i];
            items[i] = items[j];
            items[j] = item;
        }

        int packed() {
            int packed = 0;
            for (int i = 0; i < length; i++) {
                packed |= items[i] << 4 * i;
            }
            return packed;
        }
    }
}
