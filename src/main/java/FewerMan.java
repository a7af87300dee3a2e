/**
 * Players with men and a strength play games of two by odds; who has won plays on with fewer men.
 * What each call answers stands in the document, promise by promise; README.md tells how to use it.
 */
public final class FewerMan {
    public static final int NONE = -1, BAD = -2, STATE = -3, FULL = -4;
    public static final long NO = Long.MIN_VALUE;

    private static final int NO_MORE = -5, OTHER_KIND = -6, FAULTS = -10;
    private static final int NO_PUSH = -10000;

    private static final int PLAYERS = 5, OTHERS = 4, STRENGTH = 9;
    private static final int LEAST_MEN = 1, MOST_MEN = 20, MEN_AT_FIRST = 8;
    private static final int ROW = 4, ROW_MOST = 9, ROW_AT_FIRST = 4;
    private static final int LAST_GAME = 9999;
    private static final int INNS = 5, SIGNS = 100, LAST_SIGN = 127, CLAUSES = 10, OPEN = 5;
    private static final int LONG_PLAY = 12, LONG_SERIES = 5, LONG_PURPOSE = 8, LONG_STAKES = 10, LONG_TABLE = 8;
    private static final int BOOK = 8, TALES = 8, TRACE = 20;

    private static final int KINDS = 7;
    private static final int PLAYER = 0, MASTER = 1, SLY = 2, NEW = 3, GRAND = 4, PRIZE = 5, TOLD = 6;
    /** The KIND above each KIND; none above PLAYER. */
    private static final int[] ABOVE = {-1, PLAYER, PLAYER, PLAYER, MASTER, SLY, NEW};

    private static final int TEN = 10;

    private final Room room = new Room();
    private final Room image = new Room();
    /** A room in which that is played which is only asked. */
    private final Room maybe = new Room();
    private final Reader reader = new Reader();
    private final Duel duel = new Duel();
    private final Purpose purpose = new Purpose();
    private final Orders orders = new Orders();
    private final Seats seats = new Seats();
    private final Acts acts = new Acts();
    private boolean imageTaken;

    public FewerMan() {
    }

    // ---- inns, players

    public int feed(int sign) {
        if (sign < 0 || sign > LAST_SIGN) {
            return BAD;
        }
        if (room.signs >= SIGNS) {
            return FULL;
        }
        room.tape[room.signs] = sign;
        room.signs++;
        return room.signs;
    }

    public int inn() {
        if (room.inns >= INNS) {
            return FULL;
        }
        boolean read = reader.reads(room.tape, room.signs);
        room.signs = 0;
        if (!read) {
            return FAULTS - reader.at;
        }
        room.inn = new Inn(reader);
        room.inns++;
        return room.inns - 1;
    }

    public int player(int kind, int v) {
        if (isNoKind(kind)) {
            return NONE;
        }
        if (v < 0 || v > STRENGTH) {
            return BAD;
        }
        if (room.players >= PLAYERS) {
            return FULL;
        }
        room.comes(kind, v);
        return room.players - 1;
    }

    public int of(int player, int what) {
        if (isNobody(player)) {
            return NONE;
        }
        switch (what) {
            case 0: return room.kind[player];
            case 1: return room.v[player];
            case 2: return room.men[player];
            default: return NONE;
        }
    }

    public int men(int player, int n) {
        if (isNobody(player)) {
            return NONE;
        }
        if (isNoMen(n)) {
            return BAD;
        }
        int were = room.men[player];
        room.men[player] = n;
        return were;
    }

    public int row(int player, int k, int n) {
        if (isNobody(player) || k < 0 || k >= ROW) {
            return NONE;
        }
        if (n < 0 || n > ROW_MOST) {
            return BAD;
        }
        if (room.kind[player] != TOLD) {
            return STATE;
        }
        int was = room.rows[player * ROW + k];
        room.rows[player * ROW + k] = n;
        return was;
    }

    public int told(int what) {
        switch (what) {
            case 0: return room.game;
            case 1: return room.less();
            case 2: return room.more();
            default: return NONE;
        }
    }

    public int push(int one, int other) {
        int refused = refusal(one, other);
        if (refused != 0) {
            return NO_PUSH + refused;
        }
        return room.pushOf(one, room.men[one], room.men[other], room.game);
    }

    public int odds(int one, int other) {
        int refused = refusal(one, other);
        return refused != 0 ? refused : room.oddsNow(one, other);
    }

    public int play(int one, int other, boolean won) {
        int refused = refusal(one, other);
        if (refused != 0) {
            return refused;
        }
        if (room.game >= LAST_GAME) {
            return STATE;
        }
        room.game(one, other, won);
        return room.men[one];
    }

    // ---- games to come; part 0 above, 1 below the line

    public long wins(int one, int other, int n, int w, int part) {
        if (refusal(one, other) != 0 || n < 0 || n > LONG_PLAY || w < 0 || w > n || isNoPart(part)) {
            return NO;
        }
        duel.begins(room, one, other, true);
        for (int i = 0; i < n; i++) {
            duel.goesOn();
        }
        return partOf(duel.takesWon(w), powerOfTen(n), part);
    }

    public long mean(int one, int other, int n, int part) {
        if (refusal(one, other) != 0 || n < 0 || n > LONG_PLAY || isNoPart(part)) {
            return NO;
        }
        duel.begins(room, one, other, false);
        for (int i = 0; i < n; i++) {
            duel.goesOn();
        }
        return partOf(duel.menOfOne(), powerOfTen(n), part);
    }

    public long series(int one, int other, int k, int part) {
        if (refusal(one, other) != 0 || k < 1 || k > LONG_SERIES || isNoPart(part)) {
            return NO;
        }
        // So many GAMES are too few for both to win k: who has k then had them first.
        int most = 2 * k - 1;
        long first = 0;
        duel.begins(room, one, other, true);
        for (int i = 0; i < most; i++) {
            duel.goesOn();
            first = first * TEN + duel.takesWon(k);
        }
        return partOf(first, powerOfTen(most), part);
    }

    public long ends(int one, int other, int n, int part) {
        if (refusal(one, other) != 0 || n < 0 || n > LONG_PLAY || isNoPart(part)) {
            return NO;
        }
        duel.begins(room, one, other, false);
        long ended = duel.takesEnded();
        for (int i = 0; i < n; i++) {
            duel.goesOn();
            ended = ended * TEN + duel.takesEnded();
        }
        return partOf(ended, powerOfTen(n), part);
    }

    public int even(int one, int other) {
        int refused = refusal(one, other);
        if (refused != 0) {
            return refused;
        }
        int best = LEAST_MEN;
        int bestGap = TEN;
        for (int m = LEAST_MEN; m <= MOST_MEN; m++) {
            int gap = Math.abs(room.oddsOf(one, other, m, room.men[other], room.game) - TEN / 2);
            if (gap < bestGap) {
                bestGap = gap;
                best = m;
            }
        }
        return best;
    }

    public long purpose(int one, int other, int n, int part) {
        if (refusal(one, other) != 0 || n < 1 || n > LONG_PURPOSE || isNoPart(part)) {
            return NO;
        }
        return partOf(purpose.atBest(room, one, other, n), powerOfTen(n), part);
    }

    public int loses(int one, int other, int n) {
        int refused = refusal(one, other);
        if (refused != 0) {
            return refused;
        }
        if (n < 1 || n > LONG_PURPOSE) {
            return BAD;
        }
        return purpose.losesFirst(room, one, other, n) ? 1 : 0;
    }

    public int order(int player, int set, int k) {
        if (isNobody(player) || k < 0 || k >= OTHERS) {
            return NONE;
        }
        if (isNoSet(player, set)) {
            return BAD;
        }
        orders.looksFor(room, player, set);
        return k < orders.size ? orders.best[k] : NO_MORE;
    }

    public long orderMean(int player, int set, int part) {
        if (isNobody(player) || isNoSet(player, set) || isNoPart(part)) {
            return NO;
        }
        orders.looksFor(room, player, set);
        return partOf(orders.mean, powerOfTen(orders.size), part);
    }

    public long stakes(int one, int other, int n, int part) {
        if (refusal(one, other) != 0 || n < 0 || n > LONG_STAKES || isNoPart(part)) {
            return NO;
        }
        duel.begins(room, one, other, false);
        long gained = 0;
        for (int i = 0; i < n; i++) {
            gained = gained * TEN + duel.stakeOfOne();
            duel.goesOn();
        }
        return partOf(gained, powerOfTen(n), part);
    }

    public long table(int player, int n, int part) {
        if (isNobody(player) || n < 1 || n > LONG_TABLE || isNoPart(part) || room.players < 2) {
            return NO;
        }
        maybe.becomes(room);
        return partOf(seats.wonBy(maybe, player, n), powerOfTen(n), part);
    }

    // ---- books

    public int book(int one, int other, boolean won) {
        if (one == -1) {
            room.books = 0;
            return 0;
        }
        int refused = refusal(one, other);
        if (refused != 0) {
            return refused;
        }
        if (room.books >= BOOK) {
            return FULL;
        }
        room.bookWinner[room.books] = won ? one : other;
        room.bookLoser[room.books] = won ? other : one;
        room.books++;
        return room.books;
    }

    public int likely(int player) {
        if (isNobody(player)) {
            return NONE;
        }
        int best = 0;
        long most = 0;
        for (int v = 0; v <= STRENGTH; v++) {
            maybe.becomes(room);
            maybe.v[player] = v;
            long chance = 1;
            for (int i = 0; i < room.books; i++) {
                chance *= maybe.chanceOfBook(i);
                maybe.gameOfBook(i);
            }
            if (chance > most) {
                most = chance;
                best = v;
            }
        }
        return best;
    }

    public int says(int player) {
        if (isNobody(player)) {
            return NONE;
        }
        maybe.becomes(room);
        for (int i = 0; i < room.books; i++) {
            maybe.gameOfBook(i);
        }
        return maybe.men[player];
    }

    public int tale(int men) {
        if (men == -1) {
            room.tales = 0;
            return 0;
        }
        if (isNoMen(men)) {
            return BAD;
        }
        if (room.tales >= TALES) {
            return FULL;
        }
        room.tale[room.tales] = men;
        room.tales++;
        return room.tales;
    }

    public int looked() {
        if (room.players == 0) {
            return STATE;
        }
        maybe.becomes(room);
        for (int i = 0; i < room.tales; i++) {
            if (i >= room.books) {
                return i;
            }
            maybe.gameOfBook(i);
            if (maybe.men[0] != room.tale[i]) {
                return i;
            }
        }
        return NO_MORE;
    }

    // ---- acts, the image

    public int act(int player, int act, int x) {
        acts.forget();
        if (isNobody(player)) {
            return 0;
        }
        return acts.does(act, x, room.kind[player], player, room.v[player]);
    }

    public int trace(int i) {
        return i < 0 || i >= acts.kept() ? NONE : acts.trace[i];
    }

    public int as(int player, int k) {
        if (isNobody(player) || isNoKind(k)) {
            return NONE;
        }
        return isKind(room.kind[player], k) ? room.v[player] : OTHER_KIND;
    }

    public int image() {
        image.becomes(room);
        imageTaken = true;
        return room.players;
    }

    public int undo() {
        if (!imageTaken) {
            return STATE;
        }
        room.becomes(image);
        return room.players;
    }

    public int count(int what) {
        switch (what) {
            case 0: return room.players;
            case 1: return room.inns;
            case 2: return room.books;
            case 3: return room.tales;
            case 4: return room.signs;
            case 5: return acts.ran;
            default: return NONE;
        }
    }

    // ---- what the calls ask of their arguments

    private boolean isNobody(int player) {
        return player < 0 || player >= room.players;
    }

    /** NONE or BAD for two who cannot play with one another, else 0. */
    private int refusal(int one, int other) {
        if (isNobody(one) || isNobody(other)) {
            return NONE;
        }
        return one == other ? BAD : 0;
    }

    private boolean isNoSet(int player, int set) {
        int all = (1 << room.players) - 1;
        return (set & ~all) != 0 || (set >> player & 1) != 0 || Integer.bitCount(set) > OTHERS;
    }

    private static boolean isNoKind(int kind) {
        return kind < 0 || kind >= KINDS;
    }

    private static boolean isNoMen(int n) {
        return n < LEAST_MEN || n > MOST_MEN;
    }

    private static boolean isNoPart(int part) {
        return part != 0 && part != 1;
    }

    /** Whether a KIND is the wanted one, or under it. */
    private static boolean isKind(int kind, int wanted) {
        int k = kind;
        for (int up = 0; up < KINDS && k >= 0; up++) {
            if (k == wanted) {
                return true;
            }
            k = ABOVE[k];
        }
        return false;
    }

    // ---- fractions

    private static long powerOfTen(int n) {
        long power = 1;
        for (int i = 0; i < n; i++) {
            power *= TEN;
        }
        return power;
    }

    /** The part of a fraction in lowest terms; below is more than 0. */
    private static long partOf(long above, long below, int part) {
        long divisor = Math.abs(above);
        long rest = below;
        // Each two steps of Euclid halve the rest at least, so a long ends far ahead of 200.
        for (int i = 0; i < 200 && rest != 0; i++) {
            long next = divisor % rest;
            divisor = rest;
            rest = next;
        }
        if (divisor == 0) {
            return NO;
        }
        return (part == 0 ? above : below) / divisor;
    }

    /** All that there is, but the image and the trace; and what a game does to it. */
    private static final class Room {
        int players;
        final int[] kind = new int[PLAYERS];
        final int[] v = new int[PLAYERS];
        final int[] men = new int[PLAYERS];
        /** Four numbers a player; only those of TOLD ones are looked at. */
        final int[] rows = new int[PLAYERS * ROW];
        int game;
        int inns;
        /** The one that holds; null without one. */
        Inn inn;
        final int[] tape = new int[SIGNS];
        int signs;
        final int[] bookWinner = new int[BOOK];
        final int[] bookLoser = new int[BOOK];
        int books;
        final int[] tale = new int[TALES];
        int tales;
        /** What the tests of an INN are about: one row, filled anew for each PUSH. */
        private final int[] facts = new int[Inn.ABOUT];

        void becomes(Room from) {
            players = from.players;
            System.arraycopy(from.kind, 0, kind, 0, PLAYERS);
            System.arraycopy(from.v, 0, v, 0, PLAYERS);
            System.arraycopy(from.men, 0, men, 0, PLAYERS);
            System.arraycopy(from.rows, 0, rows, 0, PLAYERS * ROW);
            game = from.game;
            inns = from.inns;
            inn = from.inn;
            System.arraycopy(from.tape, 0, tape, 0, SIGNS);
            signs = from.signs;
            System.arraycopy(from.bookWinner, 0, bookWinner, 0, BOOK);
            System.arraycopy(from.bookLoser, 0, bookLoser, 0, BOOK);
            books = from.books;
            System.arraycopy(from.tale, 0, tale, 0, TALES);
            tales = from.tales;
        }

        /** The caller has looked whether there is room for one more. */
        void comes(int itsKind, int itsV) {
            kind[players] = itsKind;
            v[players] = itsV;
            men[players] = MEN_AT_FIRST;
            for (int k = 0; k < ROW; k++) {
                rows[players * ROW + k] = ROW_AT_FIRST;
            }
            players++;
        }

        int less() {
            return inn == null ? 1 : inn.less;
        }

        int more() {
            return inn == null ? 1 : inn.more;
        }

        int menIfWon(int had) {
            return Math.max(LEAST_MEN, had - less());
        }

        int menIfLost(int had) {
            return Math.min(MOST_MEN, had + more());
        }

        /** PUSH of p with m MEN against one with o MEN at GAME g. */
        int pushOf(int p, int m, int o, int g) {
            int push = v[p];
            if (inn != null) {
                facts[Inn.ITS_NUMBER] = p;
                facts[Inn.ITS_KIND] = kind[p];
                facts[Inn.ITS_MEN] = m;
                facts[Inn.OTHERS_MEN] = o;
                facts[Inn.GAME_DIGIT] = g % TEN;
                push += inn.lift(facts);
            }
            switch (kind[p]) {
                case MASTER: return push + masterly(m, o);
                case GRAND: return push + masterly(m, o) + 1;
                case SLY: return push - slyly(m);
                case PRIZE: return g >= v[p] + 2 ? push : push - slyly(m);
                case NEW: return push - newly(g);
                case TOLD: return push - newly(g) + rows[p * ROW + g % ROW] - ROW_AT_FIRST;
                default: return push;
            }
        }

        private static int masterly(int m, int o) {
            return m < o ? 2 : 0;
        }

        private static int slyly(int m) {
            return m < 4 ? 9 : 0;
        }

        private static int newly(int g) {
            return g < 3 ? 1 : 0;
        }

        /** Of ten, that p with m MEN wins against q with o MEN at GAME g. */
        int oddsOf(int p, int q, int m, int o, int g) {
            int odds = TEN / 2 + pushOf(p, m, o, g) - pushOf(q, o, m, g) + (m - o) / 2;
            return Math.max(1, Math.min(TEN - 1, odds));
        }

        int oddsNow(int one, int other) {
            return oddsOf(one, other, men[one], men[other], game);
        }

        void game(int one, int other, boolean won) {
            men[one] = won ? menIfWon(men[one]) : menIfLost(men[one]);
            men[other] = won ? menIfLost(men[other]) : menIfWon(men[other]);
            game++;
        }

        /** Of ten, that the i-th GAME of BOOK ends as told, if it is played now. */
        int chanceOfBook(int i) {
            return oddsNow(bookWinner[i], bookLoser[i]);
        }

        void gameOfBook(int i) {
            game(bookWinner[i], bookLoser[i], true);
        }
    }

    /** What an INN lifts and lowers, and how many men go and come; it never changes once read. */
    private static final class Inn {
        static final int ABOUT = 5;
        static final int ITS_NUMBER = 0, ITS_KIND = 1, ITS_MEN = 2, OTHERS_MEN = 3, GAME_DIGIT = 4;
        static final int SMALLER = 0, EQUAL = 1, GREATER = 2, COMPARISONS = 3, NUMBERS = 100;
        /** Steps of the code; tests are 0 or more. Behind BY stands what comes to PUSH if all ahead of it holds. */
        static final int NOT = -1, AND = -2, OR = -3, BY = -4;

        final int less;
        final int more;
        private final int[] code;

        Inn(Reader read) {
            less = read.less;
            more = read.more;
            code = new int[read.codeSize];
            System.arraycopy(read.code, 0, code, 0, read.codeSize);
        }

        /**
         * The code has what ! & and | are about ahead of them, so a stack of bits does. At most 5 of ! and (
         * are open, and each of these has at most two answers that wait: an int is wide enough.
         */
        int lift(int[] facts) {
            int sum = 0;
            int stack = 0;
            for (int i = 0; i < code.length; i++) {
                switch (code[i]) {
                    case NOT:
                        stack ^= 1;
                        break;
                    case AND:
                        stack = stack >> 1 & (stack | ~1);
                        break;
                    case OR:
                        stack = stack >> 1 | stack & 1;
                        break;
                    case BY:
                        i++;
                        sum += i < code.length && stack == 1 ? code[i] : 0;
                        stack = 0;
                        break;
                    default:
                        stack = stack << 1 | passes(code[i], facts);
                        break;
                }
            }
            return sum;
        }

        static int testOf(int about, int comparison, int number) {
            return (about * COMPARISONS + comparison) * NUMBERS + number;
        }

        private static int passes(int test, int[] facts) {
            int number = test % NUMBERS;
            int comparison = test / NUMBERS % COMPARISONS;
            int fact = facts[test / (NUMBERS * COMPARISONS) % ABOUT];
            if (comparison == SMALLER) {
                return fact < number ? 1 : 0;
            }
            if (comparison == EQUAL) {
                return fact == number ? 1 : 0;
            }
            return fact > number ? 1 : 0;
        }
    }

    /** Reads an INN sign by sign and never goes back: so where it stops, there is the FAULT. */
    private static final class Reader {
        private static final int LIFT = 0, DUCK = 1, LESS = 2, MORE = 3;

        int at;
        int less;
        int more;
        final int[] code = new int[SIGNS];
        int codeSize;
        private int[] tape;
        private int size;

        boolean reads(int[] signs, int howMany) {
            tape = signs;
            size = Math.min(howMany, signs.length);
            at = 0;
            less = 1;
            more = 1;
            codeSize = 0;
            for (int clauses = 1; clauses <= CLAUSES; clauses++) {
                if (!clause()) {
                    return false;
                }
                if (at == size) {
                    return true;
                }
                if (clauses == CLAUSES || !sign(';')) {
                    return false;
                }
            }
            return false;
        }

        private int peek() {
            return at < size ? tape[at] : -1;
        }

        private boolean sign(char wanted) {
            if (peek() != wanted) {
                return false;
            }
            at++;
            return true;
        }

        private boolean signs(char first, char second, char third) {
            return sign(first) && sign(second) && sign(third);
        }

        private boolean clause() {
            int word = word();
            if (word < 0 || !sign(' ')) {
                return false;
            }
            int n = number();
            if (n < 0) {
                return false;
            }
            if (word == LESS) {
                less = n;
                return true;
            }
            if (word == MORE) {
                more = n;
                return true;
            }
            if (!sign(' ') || !either(0)) {
                return false;
            }
            put(Inn.BY);
            put(word == LIFT ? n : -n);
            return true;
        }

        private int word() {
            if (sign('d')) {
                return signs('u', 'c', 'k') ? DUCK : -1;
            }
            if (sign('m')) {
                return signs('o', 'r', 'e') ? MORE : -1;
            }
            if (!sign('l')) {
                return -1;
            }
            if (peek() == 'i') {
                return signs('i', 'f', 't') ? LIFT : -1;
            }
            return signs('e', 's', 's') ? LESS : -1;
        }

        /** 1 or 2 digits, no 0 ahead of another; -1 if there is none. */
        private int number() {
            int n = digit(peek());
            if (n < 0) {
                return -1;
            }
            at++;
            int second = digit(peek());
            if (n == 0 || second < 0) {
                return n;
            }
            at++;
            return n * TEN + second;
        }

        private static int digit(int sign) {
            return sign >= '0' && sign <= '9' ? sign - '0' : -1;
        }

        /** E; open: how many of ! and ( are. */
        private boolean either(int open) {
            boolean good = both(open);
            for (int i = 0; i < SIGNS && good && sign('|'); i++) {
                good = both(open);
                put(Inn.OR);
            }
            return good;
        }

        /** T. */
        private boolean both(int open) {
            boolean good = one(this, open);
            for (int i = 0; i < SIGNS && good && sign('&'); i++) {
                good = one(this, open);
                put(Inn.AND);
            }
            return good;
        }

        /** F. */
        private static boolean one(Reader read, int open) {
            int first = read.peek();
            boolean opens = first == '!' || first == '(';
            if (opens && open >= OPEN) {
                return false;
            }
            if (read.sign('(')) {
                return read.either(open + 1) && read.sign(')');
            }
            if (read.sign('!')) {
                boolean good = one(read, open + 1);
                read.put(Inn.NOT);
                return good;
            }
            int about = aboutOf(first);
            if (about < 0) {
                return false;
            }
            read.at++;
            int comparison = comparisonOf(read.peek());
            if (comparison < 0) {
                return false;
            }
            read.at++;
            int n = read.number();
            if (n < 0) {
                return false;
            }
            read.put(Inn.testOf(about, comparison, n));
            return true;
        }

        private static int aboutOf(int sign) {
            switch (sign) {
                case 'p': return Inn.ITS_NUMBER;
                case 'k': return Inn.ITS_KIND;
                case 'm': return Inn.ITS_MEN;
                case 'o': return Inn.OTHERS_MEN;
                case 'g': return Inn.GAME_DIGIT;
                default: return -1;
            }
        }

        private static int comparisonOf(int sign) {
            switch (sign) {
                case '<': return Inn.SMALLER;
                case '=': return Inn.EQUAL;
                case '>': return Inn.GREATER;
                default: return -1;
            }
        }

        /** There are never more steps than signs: three signs a test, one any other, more than two a word. */
        private void put(int step) {
            if (codeSize < SIGNS) {
                code[codeSize] = step;
                codeSize++;
            }
        }
    }

    /** How likely two have so many MEN, and the first has won so many: as parts of a power of ten. */
    private static final class Cloud {
        static final int PAIRS = MOST_MEN * MOST_MEN, COUNTS = LONG_PLAY + 1;

        /** The pairs of MEN that are possible at all, so that the others need no look. */
        final int[] pairs = new int[PAIRS];
        int size;
        private final boolean[] listed = new boolean[PAIRS];
        private final long[] parts = new long[PAIRS * COUNTS];

        static int pairOf(int m, int o) {
            return (m - 1) * MOST_MEN + o - 1;
        }

        static int menOfOne(int pair) {
            return pair / MOST_MEN + 1;
        }

        static int menOfOther(int pair) {
            return pair % MOST_MEN + 1;
        }

        void add(int pair, int won, long part) {
            if (!listed[pair]) {
                listed[pair] = true;
                pairs[size] = pair;
                size++;
            }
            parts[pair * COUNTS + won] += part;
        }

        long part(int pair, int won) {
            return parts[pair * COUNTS + won];
        }

        long take(int pair, int won) {
            long part = parts[pair * COUNTS + won];
            parts[pair * COUNTS + won] = 0;
            return part;
        }

        void clear() {
            for (int i = 0; i < size; i++) {
                listed[pairs[i]] = false;
                for (int won = 0; won < COUNTS; won++) {
                    parts[pairs[i] * COUNTS + won] = 0;
                }
            }
            size = 0;
        }
    }

    /** Two who play on with one another: all that may come at once, GAME by GAME. */
    private static final class Duel {
        private Cloud now = new Cloud();
        private Cloud next = new Cloud();
        private Room room;
        private int one;
        private int other;
        private int game;
        private int played;
        private boolean counts;

        /** counts: whether it matters how many the first has won; else none are counted. */
        void begins(Room from, int first, int second, boolean countsWon) {
            room = from;
            one = first;
            other = second;
            game = from.game;
            played = 0;
            counts = countsWon;
            now.clear();
            now.add(Cloud.pairOf(from.men[first], from.men[second]), 0, 1);
        }

        void goesOn() {
            for (int i = 0; i < now.size; i++) {
                spreads(now.pairs[i]);
            }
            now.clear();
            Cloud empty = now;
            now = next;
            next = empty;
            game++;
            played++;
        }

        private void spreads(int pair) {
            int m = Cloud.menOfOne(pair);
            int o = Cloud.menOfOther(pair);
            int odds = room.oddsOf(one, other, m, o, game);
            int ifWon = Cloud.pairOf(room.menIfWon(m), room.menIfLost(o));
            int ifLost = Cloud.pairOf(room.menIfLost(m), room.menIfWon(o));
            int most = counts ? Math.min(played, LONG_PLAY - 1) : 0;
            for (int won = 0; won <= most; won++) {
                long part = now.part(pair, won);
                if (part != 0) {
                    next.add(ifWon, counts ? won + 1 : 0, part * odds);
                    next.add(ifLost, won, part * (TEN - odds));
                }
            }
        }

        /** What has so many won leaves the game. */
        long takesWon(int won) {
            if (won < 0 || won >= Cloud.COUNTS) {
                return 0;
            }
            long sum = 0;
            for (int i = 0; i < now.size; i++) {
                sum += now.take(now.pairs[i], won);
            }
            return sum;
        }

        /** Where the first has one man, it leaves the game. */
        long takesEnded() {
            long sum = 0;
            for (int i = 0; i < now.size; i++) {
                if (Cloud.menOfOne(now.pairs[i]) == LEAST_MEN) {
                    sum += now.take(now.pairs[i], 0);
                }
            }
            return sum;
        }

        long menOfOne() {
            long sum = 0;
            for (int i = 0; i < now.size; i++) {
                sum += now.part(now.pairs[i], 0) * Cloud.menOfOne(now.pairs[i]);
            }
            return sum;
        }

        /** What the next GAME brings the first one in the mean, as parts of ten times as many. */
        long stakeOfOne() {
            long sum = 0;
            for (int i = 0; i < now.size; i++) {
                int m = Cloud.menOfOne(now.pairs[i]);
                int o = Cloud.menOfOther(now.pairs[i]);
                int odds = room.oddsOf(one, other, m, o, game);
                sum += now.part(now.pairs[i], 0) * (odds * o - (TEN - odds) * m);
            }
            return sum;
        }
    }

    /** Whether to lose on purpose for the last game. */
    private static final class Purpose {
        private Room room;
        private int one;
        private int other;

        /** How likely the n-th GAME is won at best, as parts of ten to n. */
        long atBest(Room from, int first, int second, int n) {
            asks(from, first, second);
            return best(this, from.men[first], from.men[second], from.game, n);
        }

        boolean losesFirst(Room from, int first, int second, int n) {
            if (n < 2) {
                return false;
            }
            asks(from, first, second);
            int m = from.men[first];
            int o = from.men[second];
            // However likely it is to win: to lose on purpose is better just if what comes then is better.
            return ifLost(this, m, o, from.game, n) > ifWon(this, m, o, from.game, n);
        }

        private void asks(Room from, int first, int second) {
            room = from;
            one = first;
            other = second;
        }

        /** Which GAMES are lost on purpose may hang on how those ahead went. */
        private static long best(Purpose asked, int m, int o, int g, int left) {
            int odds = asked.room.oddsOf(asked.one, asked.other, m, o, g);
            if (left <= 1) {
                return odds;
            }
            long won = ifWon(asked, m, o, g, left);
            long lost = ifLost(asked, m, o, g, left);
            return Math.max(TEN * lost, odds * won + (TEN - odds) * lost);
        }

        private static long ifWon(Purpose asked, int m, int o, int g, int left) {
            return best(asked, asked.room.menIfWon(m), asked.room.menIfLost(o), g + 1, left - 1);
        }

        private static long ifLost(Purpose asked, int m, int o, int g, int left) {
            return best(asked, asked.room.menIfLost(m), asked.room.menIfWon(o), g + 1, left - 1);
        }
    }

    /** The best row of others to play. */
    private static final class Orders {
        final int[] best = new int[OTHERS];
        int size;
        /** Of the best one, as parts of ten to size. */
        long mean;
        private final int[] row = new int[OTHERS];
        /** How likely the player has so many MEN behind so many GAMES of the row. */
        private final long[][] spread = new long[OTHERS + 1][MOST_MEN + 1];
        private Room room;
        private int player;

        void looksFor(Room from, int who, int set) {
            room = from;
            player = who;
            size = Math.min(OTHERS, Integer.bitCount(set));
            mean = -1;
            for (int m = 0; m <= MOST_MEN; m++) {
                spread[0][m] = 0;
            }
            spread[0][from.men[who]] = 1;
            tryRows(this, 0, set, 0);
        }

        /** Rows come by numbers, so the first one of several with the most stays. */
        private static void tryRows(Orders all, int at, int left, long gained) {
            if (at >= all.size) {
                if (gained > all.mean) {
                    all.mean = gained;
                    System.arraycopy(all.row, 0, all.best, 0, OTHERS);
                }
                return;
            }
            for (int other = 0; other < all.room.players; other++) {
                if ((left >> other & 1) == 1) {
                    all.row[at] = other;
                    tryRows(all, at + 1, left & ~(1 << other), gained * TEN + all.plays(at, other));
                }
            }
        }

        /** How likely the player wins this one, as parts of ten to at and one. */
        private long plays(int at, int other) {
            for (int m = 0; m <= MOST_MEN; m++) {
                spread[at + 1][m] = 0;
            }
            long sum = 0;
            for (int m = LEAST_MEN; m <= MOST_MEN; m++) {
                long part = spread[at][m];
                if (part != 0) {
                    int odds = room.oddsOf(player, other, m, room.men[other], room.game + at);
                    spread[at + 1][room.menIfWon(m)] += part * odds;
                    spread[at + 1][room.menIfLost(m)] += part * (TEN - odds);
                    sum += part * odds;
                }
            }
            return sum;
        }
    }

    /** The table at which who wins stays. */
    private static final class Seats {
        /** Who waits behind so many GAMES begins at that place; who loses comes to the end. */
        private final int[] waiting = new int[PLAYERS + LONG_TABLE];
        private Room room;
        private int player;
        private int games;

        /** Plays in the room, but leaves MEN and GAME of it as they were; parts of ten to n. */
        long wonBy(Room in, int who, int n) {
            room = in;
            player = who;
            games = n;
            for (int i = 2; i < in.players; i++) {
                waiting[i - 2] = i;
            }
            return wonFrom(this, 0, 0, 1);
        }

        private static long wonFrom(Seats all, int played, int one, int other) {
            int odds = all.room.oddsNow(one, other);
            if (played >= all.games - 1) {
                if (one == all.player) {
                    return odds;
                }
                return other == all.player ? TEN - odds : 0;
            }
            int m = all.room.men[one];
            int o = all.room.men[other];
            all.room.game(one, other, true);
            long won = wonFrom(all, played + 1, one, all.comesFor(other, played));
            all.goesBack(one, m, other, o);
            all.room.game(one, other, false);
            long lost = wonFrom(all, played + 1, all.comesFor(one, played), other);
            all.goesBack(one, m, other, o);
            return odds * won + (TEN - odds) * lost;
        }

        /** Who loses waits first, then the first one comes: so of two the same one comes again. */
        private int comesFor(int loser, int played) {
            waiting[played + room.players - 2] = loser;
            return waiting[played];
        }

        private void goesBack(int one, int m, int other, int o) {
            room.men[one] = m;
            room.men[other] = o;
            room.game--;
        }
    }

    /** What players do, by the bodies of their KINDS, and the trace of the bodies. */
    private static final class Acts {
        /** For each KIND the one whose body it runs. */
        private static final int[] MOVES = {PLAYER, MASTER, PLAYER, PLAYER, MASTER, PRIZE, PLAYER};
        private static final int[] BETS = {PLAYER, PLAYER, SLY, PLAYER, PLAYER, SLY, TOLD};
        private static final int[] TELLS = {PLAYER, PLAYER, PLAYER, NEW, GRAND, PLAYER, NEW};

        final int[] trace = new int[TRACE];
        int ran;
        private int kind;
        private int i;
        private int v;

        void forget() {
            ran = 0;
        }

        int kept() {
            return Math.min(ran, TRACE);
        }

        int does(int act, int x, int itsKind, int itsNumber, int itsV) {
            kind = itsKind;
            i = itsNumber;
            v = itsV;
            switch (act) {
                case 0: return moves(this, kind, x);
                case 1: return bets(this, kind, x);
                case 2: return tells(this, kind, x);
                default: return 0;
            }
        }

        private void begins(int body) {
            if (ran < TRACE) {
                trace[ran] = body;
            }
            ran++;
        }

        /** The body that a KIND has, or the next one above; a body's super goes up the KINDS, which end. */
        private static int moves(Acts its, int from, int x) {
            switch (MOVES[from]) {
                case MASTER:
                    its.begins(11);
                    return moves(its, ABOVE[MASTER], x * 3);
                case PRIZE:
                    its.begins(51);
                    return moves(its, ABOVE[PRIZE], x) ^ its.i;
                default:
                    its.begins(1);
                    return x + its.i;
            }
        }

        private static int bets(Acts its, int from, int x) {
            switch (BETS[from]) {
                case SLY:
                    its.begins(21);
                    return -bets(its, ABOVE[SLY], x);
                case TOLD:
                    its.begins(61);
                    return bets(its, ABOVE[TOLD], x) + its.v;
                default:
                    its.begins(2);
                    return moves(its, its.kind, x) - its.v;
            }
        }

        private static int tells(Acts its, int from, int x) {
            switch (TELLS[from]) {
                case NEW:
                    its.begins(31);
                    return tells(its, ABOVE[NEW], x) ^ 7;
                case GRAND:
                    its.begins(41);
                    int above = tells(its, ABOVE[GRAND], x - 1);
                    return above + moves(its, its.kind, 2);
                default:
                    its.begins(3);
                    return bets(its, its.kind, x) * 2;
            }
        }
    }
}
