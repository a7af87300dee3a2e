import java.util.function.Supplier;

/**
 * Every call with every meeting of numbers at its bounds, just beyond them and far off, with nobody, with two, and
 * where all is full: of several refusals it answers the first one told, and nothing is otherwise then.
 */
final class Refusals {
    private static final int NONE = FewerMan.NONE, BAD = FewerMan.BAD, STATE = FewerMan.STATE, FULL = FewerMan.FULL;
    private static final long NO = FewerMan.NO, TAKEN = Long.MAX_VALUE;
    private static final int MIN = Integer.MIN_VALUE, MAX = Integer.MAX_VALUE;
    private static final int[] PART = {MIN, -1, 0, 1, 2, MAX};

    private interface Call {
        long of(FewerMan x, int[] a);
    }

    private interface Due {
        long of(int[] a);
    }

    private final Supplier<FewerMan> from;
    private final int players;
    private final boolean full;
    private final String untouched;
    private final int[] who;

    private Refusals(Supplier<FewerMan> from, int players, boolean full) {
        this.from = from;
        this.players = players;
        this.full = full;
        untouched = Check.lookThrough(from.get());
        who = new int[] {MIN, -1, 0, 1, players - 1, players, 32, MAX};
    }

    static void all() {
        constants();
        Check.sentence("REFUSALS, of several the first one told: NONE there is no such player, KIND, what, part, k, "
            + "i; BAD a number is not as told, or two players are one; STATE as told; FULL. They change nothing.");
        new Refusals(FewerMan::new, 0, false).calls();
        new Refusals(Refusals::two, 2, false).calls();
        new Refusals(Refusals::filled, 5, true).calls();
    }

    private static void constants() {
        Check.sentence("The constants: `NO = Long.MIN_VALUE`: There is no such number.");
        Check.due("NO", NO, -9223372036854775807L - 1);
        Check.due("NONE", NONE, -1);
        Check.due("BAD", BAD, -2);
        Check.due("STATE", STATE, -3);
        Check.due("FULL", FULL, -4);
    }

    private static FewerMan two() {
        FewerMan x = new FewerMan();
        x.player(4, 3);
        x.player(6, 5);
        Check.feed(x, "less 3;more 4");
        x.image();
        Check.feed(x, ";lift 2 p=0&g=0");
        x.book(0, 1, true);
        x.tale(7);
        x.act(0, 2, 9);
        return x;
    }

    private static FewerMan filled() {
        FewerMan x = new FewerMan();
        int[] kinds = {6, 1, 5, 3, 2};
        for (int i = 0; i < 5; i++) {
            x.player(kinds[i], 2 + i);
            x.men(i, 5 + 2 * i);
        }
        for (int i = 0; i < 4; i++) {
            Check.inn(x, "lift " + i + " p=0;less " + i);
        }
        Check.feed(x, "less 2;duck 2 k=6");
        x.image();
        x.inn();
        for (int i = 0; i < 100; i++) {
            x.feed(i % 128);
        }
        for (int i = 0; i < 8; i++) {
            x.book(i % 5, (i + 3) % 5, i % 2 == 0);
            x.tale(i + 3);
        }
        x.act(2, 2, 9);
        return x;
    }

    private void calls() {
        inns();
        players();
        games();
        sets();
        books();
    }

    private void held(String name, Call call, Due due, int[]... numbers) {
        int[] a = new int[numbers.length];
        int all = 1;
        for (int[] one : numbers) {
            all *= one.length;
        }
        for (int i = 0; i < all; i++) {
            StringBuilder what = new StringBuilder(name + " with " + players + " players:");
            for (int k = 0, rest = i; k < numbers.length; k++) {
                a[k] = numbers[k][rest % numbers[k].length];
                rest /= numbers[k].length;
                what.append(' ').append(a[k]);
            }
            held(what.toString(), call, a, due.of(a));
        }
    }

    private void held(String what, Call call, int[] a, long want) {
        FewerMan x = from.get();
        long answer = call.of(x, a);
        if (want == TAKEN) {
            Check.due(what + " is taken", answer == NO || answer <= -1 && answer >= -4 ? answer : TAKEN, TAKEN);
        } else {
            Check.due(what, answer, want);
            Check.due(what + " changes nothing", Check.lookThrough(x), untouched);
        }
    }

    private boolean nobody(int player) {
        return player < 0 || player > players - 1;
    }

    private long pair(int one, int other) {
        return nobody(one) || nobody(other) ? NONE : one == other ? BAD : TAKEN;
    }

    private static boolean beyond(int n, int least, int most) {
        return n < least || n > most;
    }

    private static int[] bounds(int least, int most) {
        return new int[] {MIN, least - 1, least, most, most + 1, MAX};
    }

    private void inns() {
        held("feed", (x, a) -> x.feed(a[0]), a -> beyond(a[0], 0, 127) ? BAD : full ? FULL : TAKEN, bounds(0, 127));
        if (full) {
            held("inn", (x, a) -> x.inn(), a -> FULL);
        }
        held("told", (x, a) -> x.told(a[0]), a -> beyond(a[0], 0, 2) ? NONE : TAKEN, bounds(0, 2));
        held("count", (x, a) -> x.count(a[0]), a -> beyond(a[0], 0, 5) ? NONE : TAKEN, bounds(0, 5));
        int ran = from.get().count(5);
        held("trace", (x, a) -> x.trace(a[0]), a -> beyond(a[0], 0, ran - 1) ? NONE : TAKEN, bounds(0, ran - 1));
    }

    private void players() {
        held("player", (x, a) -> x.player(a[0], a[1]), a -> beyond(a[0], 0, 6) ? NONE : beyond(a[1], 0, 9) ? BAD
            : full ? FULL : TAKEN, bounds(0, 6), bounds(0, 9));
        held("of", (x, a) -> x.of(a[0], a[1]), a -> nobody(a[0]) || beyond(a[1], 0, 2) ? NONE : TAKEN,
            who, bounds(0, 2));
        held("men", (x, a) -> x.men(a[0], a[1]), a -> nobody(a[0]) ? NONE : beyond(a[1], 1, 20) ? BAD : TAKEN,
            who, bounds(1, 20));
        held("row", (x, a) -> x.row(a[0], a[1], a[2]), a -> nobody(a[0]) || beyond(a[1], 0, 3) ? NONE
            : beyond(a[2], 0, 9) ? BAD : from.get().of(a[0], 0) != 6 ? STATE : TAKEN,
            who, bounds(0, 3), bounds(0, 9));
        held("push", (x, a) -> x.push(a[0], a[1]) > -10000 ? TAKEN : x.push(a[0], a[1]),
            a -> pair(a[0], a[1]) == TAKEN ? TAKEN : -10000 + pair(a[0], a[1]), who, who);
        held("odds", (x, a) -> x.odds(a[0], a[1]), a -> pair(a[0], a[1]), who, who);
        held("play", (x, a) -> x.play(a[0], a[1], a[2] == 1), a -> pair(a[0], a[1]), who, who, new int[] {0, 1});
        held("even", (x, a) -> x.even(a[0], a[1]), a -> pair(a[0], a[1]), who, who);
        held("as", (x, a) -> x.as(a[0], a[1]), a -> nobody(a[0]) || beyond(a[1], 0, 6) ? NONE : TAKEN,
            who, bounds(0, 6));
    }

    private void games() {
        held("wins", (x, a) -> x.wins(a[0], a[1], a[2], a[3], a[4]), a -> pair(a[0], a[1]) != TAKEN
            || beyond(a[2], 0, 12) || beyond(a[3], 0, a[2]) || beyond(a[4], 0, 1) ? NO : TAKEN,
            who, new int[] {-1, 0, 1, players, MAX}, bounds(0, 12), new int[] {MIN, -1, 0, 1, 12, 13, MAX},
            new int[] {-1, 0, 1, 2});
        games("mean", 0, 12, (x, a) -> x.mean(a[0], a[1], a[2], a[3]));
        games("series", 1, 5, (x, a) -> x.series(a[0], a[1], a[2], a[3]));
        games("ends", 0, 12, (x, a) -> x.ends(a[0], a[1], a[2], a[3]));
        games("purpose", 1, 8, (x, a) -> x.purpose(a[0], a[1], a[2], a[3]));
        games("stakes", 0, 10, (x, a) -> x.stakes(a[0], a[1], a[2], a[3]));
        held("loses", (x, a) -> x.loses(a[0], a[1], a[2]), a -> pair(a[0], a[1]) == NONE ? NONE
            : pair(a[0], a[1]) == BAD || beyond(a[2], 1, 8) ? BAD : TAKEN, who, who, bounds(1, 8));
        held("table", (x, a) -> x.table(a[0], a[1], a[2]), a -> nobody(a[0]) || beyond(a[1], 1, 8)
            || beyond(a[2], 0, 1) || players < 2 ? NO : TAKEN, who, bounds(1, 8), PART);
    }

    private void games(String name, int least, int most, Call call) {
        held(name, call, a -> pair(a[0], a[1]) != TAKEN || beyond(a[2], least, most) || beyond(a[3], 0, 1) ? NO
            : TAKEN, who, who, bounds(least, most), PART);
    }

    private void sets() {
        int[] sets = {MIN, MIN + 2, -1, -2, 0, 1, 2, 3, 5, 6, 15, 16, 28, 30, 31, 32, 34, 1 << 30, MAX};
        held("order", (x, a) -> x.order(a[0], a[1], a[2]) == -5 ? TAKEN : x.order(a[0], a[1], a[2]),
            a -> nobody(a[0]) || beyond(a[2], 0, 3) ? NONE : noSet(a[0], a[1]) ? BAD : TAKEN,
            who, sets, bounds(0, 3));
        held("orderMean", (x, a) -> x.orderMean(a[0], a[1], a[2]), a -> nobody(a[0]) || noSet(a[0], a[1])
            || beyond(a[2], 0, 1) ? NO : TAKEN, who, sets, PART);
    }

    /** One bit after the other. */
    private boolean noSet(int player, int set) {
        for (int bit = 0; bit < 32; bit++) {
            if ((set >>> bit & 1) == 1 && (bit == player || nobody(bit))) {
                return true;
            }
        }
        return false;
    }

    private void books() {
        int[] one = {MIN, -2, 0, 1, players, 32, MAX};
        held("book", (x, a) -> x.book(a[0], a[1], a[2] == 1), a -> pair(a[0], a[1]) != TAKEN ? pair(a[0], a[1])
            : full ? FULL : TAKEN, one, who, new int[] {0, 1});
        held("likely", (x, a) -> x.likely(a[0]), a -> nobody(a[0]) ? NONE : TAKEN, who);
        held("says", (x, a) -> x.says(a[0]), a -> nobody(a[0]) ? NONE : TAKEN, who);
        held("tale", (x, a) -> x.tale(a[0]), a -> beyond(a[0], 1, 20) ? BAD : full ? FULL : TAKEN,
            new int[] {MIN, -2, 0, 1, 20, 21, MAX});
        if (players == 0) {
            held("looked", (x, a) -> x.looked(), a -> STATE);
            held("undo", (x, a) -> x.undo(), a -> STATE);
        }
    }
}
