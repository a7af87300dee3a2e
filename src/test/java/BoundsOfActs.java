import java.util.List;
import java.util.function.ToLongFunction;

/** Sentence by sentence: ACTS, THE TRACE, KINDS taken for others, THE IMAGE, how many (promises 28 to 33). */
final class BoundsOfActs {
    private static final int NONE = FewerMan.NONE, STATE = FewerMan.STATE, FULL = FewerMan.FULL;
    private static final int MIN = Integer.MIN_VALUE, MAX = Integer.MAX_VALUE;
    private static final int[] NOBODY = {MIN, MIN + 1, -1, 5, 6, 31, 32, 33, MAX};

    private BoundsOfActs() {
    }

    static void all() {
        wrapping();
        bodies();
        nextKindAbove();
        fromTheLeft();
        trace();
        actRefused();
        traceRefused();
        as();
        whatTheImageIs();
        eachOfAll();
        image();
        undo();
        count();
        manyCalls();
        onlyWhatIsTold();
    }

    /** Five players of all KINDS but 0 and 3, each with its number as told, and v as told. */
    private static FewerMan five(int kind, int at, int v) {
        FewerMan x = new FewerMan();
        int[] others = {1, 2, 4, 5, 6};
        for (int i = 0; i < 5; i++) {
            x.player(i == at ? kind : others[i], i == at ? v : i);
        }
        return x;
    }

    private static void act(int kind, int at, int v, int act, int with, int want) {
        Check.due("act " + act + " of KIND " + kind + ", number " + at + ", v " + v + " with " + with,
            five(kind, at, v).act(at, act, with), want);
    }

    private static void wrapping() {
        Check.sentence("ACTS of a player with x (ints, wrapping): moves, bets, tells; i its number.");
        // x + i
        act(0, 0, 0, 0, MAX, MAX);
        act(0, 1, 0, 0, MAX, MIN);
        act(0, 4, 0, 0, MAX, MIN + 3);
        act(0, 4, 0, 0, MIN, MIN + 4);
        // moves(x) - v
        act(0, 0, 0, 1, MIN, MIN);
        act(0, 0, 1, 1, MIN, MAX);
        act(0, 0, 9, 1, MIN, MAX - 8);
        act(0, 4, 9, 1, MAX, MAX - 5);
        act(0, 4, 9, 1, MIN, MAX - 4);
        // bets(x) * 2
        act(0, 0, 0, 2, MAX, -2);
        act(0, 0, 0, 2, MIN, 0);
        act(0, 0, 0, 2, 1 << 30, MIN);
        act(0, 0, 0, 2, (1 << 30) - 1, MAX - 1);
        act(0, 0, 1, 2, MIN, -2);
        // x * 3
        act(1, 0, 0, 0, MAX, MAX - 2);
        act(1, 0, 0, 0, MIN, MIN);
        act(1, 2, 0, 0, MIN, MIN + 2);
        act(1, 0, 0, 0, 715827882, 2147483646);
        act(1, 0, 0, 0, 715827883, -2147483647);
        act(1, 1, 0, 0, 1431655765, 0);
        // -super.bets(x)
        act(2, 0, 0, 1, MIN, MIN);
        act(2, 0, 0, 1, MAX, MIN + 1);
        act(2, 0, 1, 1, MIN, MIN + 1);
        // super.tells(x) ^ 7
        act(3, 0, 0, 2, MIN, 7);
        act(3, 0, 0, 2, 1 << 30, MIN + 7);
        act(3, 0, 0, 2, MAX, -7);
        // super.tells(x - 1) + moves(2): (3 (x - 1) + i - v) 2 and 6 + i
        act(4, 0, 0, 2, MIN, 2 * (MAX - 2) + 6);
        act(4, 0, 0, 2, MAX, 2 * (MAX - 5) + 6);
        act(4, 4, 9, 2, MIN + 1, 2 * (MIN + 4 - 9) + 10);
        act(4, 0, 0, 2, 357913942, 2147483646 + 6);
        // super.moves(x) ^ i
        act(5, 4, 0, 0, MAX, (MIN + 3) ^ 4);
        act(5, 1, 0, 0, MAX, MIN + 1);
        // super.bets(x) + v
        act(6, 0, 9, 1, MIN, MIN);
        act(6, 4, 9, 1, MAX, MIN + 3);
    }

    private static void body(int kind, int act, int with, int want, int... trace) {
        FewerMan x = five(kind, 3, 5);
        String what = "act " + act + " of KIND " + kind;
        Check.due(what, x.act(3, act, with), want);
        Check.due("bodies of " + what, x.count(5), trace.length);
        for (int i = 0; i < trace.length; i++) {
            Check.due("body " + i + " of " + what, x.trace(i), trace[i]);
        }
        Check.due("no more bodies of " + what, x.trace(trace.length), NONE);
    }

    private static void bodies() {
        Check.sentence("BODIES: PLAYER: 1 moves: x + i. 2 bets: moves(x) - v. 3 tells: bets(x) * 2. "
            + "MASTER: 11 moves: super.moves(x * 3). SLY: 21 bets: -super.bets(x). NEW: 31 tells: super.tells(x) ^ 7. "
            + "GRAND: 41 tells: super.tells(x - 1) + moves(2). PRIZE: 51 moves: super.moves(x) ^ i. "
            + "TOLD: 61 bets: super.bets(x) + v.");
        body(0, 0, 20, 23, 1);
        body(0, 1, 20, 18, 2, 1);
        body(0, 2, 20, 36, 3, 2, 1);
        body(1, 0, 20, 63, 11, 1);
        body(2, 1, 20, -18, 21, 2, 1);
        body(3, 2, 20, 35, 31, 3, 2, 1);
        body(4, 2, 20, 119, 41, 3, 2, 11, 1, 11, 1);
        body(5, 0, 20, 20, 51, 1);
        body(6, 1, 20, 23, 61, 2, 1);
    }

    private static void nextKindAbove() {
        Check.sentence("moves(..) and so on: the body of its KIND, or, if that has none, of the next KIND above that "
            + "has one; super.moves(..): so from the KIND above the body's on;");
        body(1, 1, 20, 58, 2, 11, 1);
        body(1, 2, 20, 116, 3, 2, 11, 1);
        body(2, 0, 20, 23, 1);
        body(2, 2, 20, -36, 3, 21, 2, 1);
        body(3, 0, 20, 23, 1);
        body(3, 1, 20, 18, 2, 1);
        body(4, 0, 20, 63, 11, 1);
        body(4, 1, 20, 58, 2, 11, 1);
        body(5, 1, 20, -15, 21, 2, 51, 1);
        body(5, 2, 20, -30, 3, 21, 2, 51, 1);
        body(6, 0, 20, 23, 1);
        body(6, 2, 20, 41, 31, 3, 61, 2, 1);
    }

    private static void fromTheLeft() {
        Check.sentence("what stands in a body is done from the left on.");
        FewerMan x = five(4, 3, 5);
        x.act(3, 2, 1);
        Check.due("super.tells first", x.trace(1), 3);
        Check.due("moves behind it", x.trace(5), 11);
        Check.due("and its super", x.trace(6), 1);
    }

    private static void trace() {
        Check.sentence("THE TRACE: the numbers of the bodies that ran in the latest act(), as they began; the first "
            + "20 are kept.");
        // No body runs so many: seven are the most, so all are kept.
        FewerMan x = five(4, 3, 5);
        Check.due("none yet", x.count(5), 0);
        x.act(3, 2, 1);
        Check.due("seven", x.count(5), 7);
        x.act(3, 0, 1);
        Check.due("of the latest", x.count(5), 2);
        Check.due("of the latest", x.trace(0), 11);
        Check.due("of the latest", x.trace(1), 1);
        Check.due("no more of the one before", x.trace(2), NONE);
        for (int i = 0; i < 30; i++) {
            x.act(3, 2, i);
        }
        Check.due("of the latest alone", x.count(5), 7);
        Check.due("of the latest alone", x.trace(7), NONE);
        Check.due("as they began", x.trace(0), 41);
    }

    private static void actRefused() {
        Check.sentence("An ACT (0 moves, 1 bets, 2 tells) of a player with x. 0, and no TRACE then: no such player, "
            + "act.");
        int[][] wrong = {{0, -1}, {0, 3}, {4, MIN}, {4, MAX}, {4, 4}, {4, 256}, {-1, 3}, {5, -1}};
        for (int[] call : wrong) {
            refusedAct(call[0], call[1]);
        }
        for (int nobody : NOBODY) {
            for (int act = 0; act < 3; act++) {
                refusedAct(nobody, act);
            }
        }
        for (int act = 0; act < 3; act++) {
            Check.due("nobody at all", new FewerMan().act(0, act, 5), 0);
        }
        FewerMan x = five(0, 0, 0);
        Check.due("moves", x.act(0, 0, 0), 0);
        Check.due("a TRACE with 0, too", x.count(5), 1);
    }

    private static void refusedAct(int player, int act) {
        for (int with : new int[] {MIN, 0, 7, MAX}) {
            FewerMan x = five(4, 3, 5);
            x.act(3, 2, 1);
            String what = "act " + act + " of " + player;
            Check.due(what, x.act(player, act, with), 0);
            Check.due("no TRACE behind " + what, x.count(5), 0);
            for (int i = -1; i < 8; i++) {
                Check.due("no TRACE behind " + what, x.trace(i), NONE);
            }
            Check.due("all else behind " + what, Check.lookThrough(x), Check.lookThrough(five(4, 3, 5)));
        }
    }

    private static void traceRefused() {
        Check.sentence("THE TRACE's i-th body. NONE.");
        FewerMan x = five(4, 3, 5);
        int[] want = {41, 3, 2, 11, 1, 11, 1};
        x.act(3, 2, 1);
        for (int i = 0; i < 7; i++) {
            Check.due("the body " + i, x.trace(i), want[i]);
        }
        for (int i : new int[] {MIN, MIN + 1, -1, 7, 8, 19, 20, 21, 32, MAX}) {
            Check.refused("the body " + i, x, () -> x.trace(i), NONE);
        }
        FewerMan y = new FewerMan();
        Check.refused("no act yet", y, () -> y.trace(0), NONE);
    }

    private static void as() {
        Check.sentence("A player taken for a KIND k (0 .. 6), or one under that: its v. NONE: player, k; -6: it is of "
            + "another KIND.");
        // For each KIND of a player the KINDS for which it is taken.
        String[] taken = {"0", "01", "02", "03", "014", "025", "036"};
        for (int kind = 0; kind <= 6; kind++) {
            for (int v = 0; v <= 9; v += 9) {
                FewerMan x = five(kind, 2, v);
                for (int k = 0; k <= 6; k++) {
                    Check.due("KIND " + kind + " for " + k, x.as(2, k), taken[kind].indexOf('0' + k) >= 0 ? v : -6);
                }
                for (int k : new int[] {MIN, MIN + 1, -1, 7, 8, 32, MAX}) {
                    Check.refused("k " + k, x, () -> x.as(2, k), NONE);
                }
            }
        }
        FewerMan x = five(0, 0, 5);
        for (int nobody : NOBODY) {
            for (int k : new int[] {MIN, -1, 0, 6, 7, MAX}) {
                Check.refused("player " + nobody + ", k " + k, x, () -> x.as(nobody, k), NONE);
            }
        }
    }

    private static void whatTheImageIs() {
        Check.sentence("THE IMAGE: all that there is (but THE IMAGE and THE TRACE).");
        FewerMan x = full();
        x.image();
        spoils(x);
        x.undo();
        FewerMan y = full();
        y.image();
        // The trace is none of it: the latest act's stays.
        Check.due("the trace stays", x.trace(0), 1);
        Check.due("the trace stays", x.count(5), 1);
        x.act(4, 2, 3);
        y.act(4, 2, 3);
        Check.due("all that there is", Check.lookThrough(x), Check.lookThrough(y));
        // The image is none of it either: it can be brought back again.
        FewerMan z = full();
        z.image();
        for (int i = 0; i < 3; i++) {
            spoils(z);
            Check.due("again", z.undo(), 4);
        }
        z.act(4, 2, 3);
        Check.due("again", Check.lookThrough(z), Check.lookThrough(fullWithImage()));
    }

    /** Of each player all that it has, and of BOOK and TALES each one. */
    private static void eachOfAll() {
        FewerMan x = new FewerMan();
        for (int i = 0; i < 5; i++) {
            x.player(6, i);
            x.men(i, 10 + i);
            for (int k = 0; k < 4; k++) {
                x.row(i, k, (3 * i + 2 * k) % 10);
            }
        }
        for (int i = 0; i < 8; i++) {
            x.book(i % 2 == 0 ? 0 : i % 4 + 1, i % 2 == 0 ? i % 4 + 1 : 0, i < 5);
            x.tale(x.says(0));
        }
        Check.due("as told", x.looked(), -5);
        x.image();
        for (int i = 0; i < 5; i++) {
            x.men(i, 1);
            for (int k = 0; k < 4; k++) {
                x.row(i, k, 9);
            }
        }
        x.tale(-1);
        x.book(-1, 0, true);
        for (int i = 0; i < 8; i++) {
            x.tale(20);
            x.book(1, 0, true);
        }
        x.undo();
        Check.due("BOOK and TALES", x.looked(), -5);
        for (int i = 0; i < 5; i++) {
            Check.due("v of " + i, x.of(i, 1), i);
            Check.due("MEN of " + i, x.of(i, 2), 10 + i);
            for (int k = 0; k < 4; k++) {
                Check.due("ROW of " + i + " at " + k, x.row(i, k, 0), (3 * i + 2 * k) % 10);
            }
        }
    }

    private static FewerMan fullWithImage() {
        FewerMan x = full();
        x.image();
        x.act(4, 2, 3);
        return x;
    }

    /** Four players, and something of all. */
    private static FewerMan full() {
        FewerMan x = new FewerMan();
        int[] kinds = {6, 1, 5, 4};
        for (int i = 0; i < 4; i++) {
            x.player(kinds[i], 3 + i);
            x.men(i, 6 + i);
        }
        x.row(0, 1, 7);
        x.row(0, 3, 0);
        Check.inn(x, "lift 3 p=1&g>3|m<7;less 2");
        Check.inn(x, "lift 2 p=0&g>3|m<7;more 2");
        Check.feed(x, "duck 4 !g=2;more 3");
        x.play(0, 3, true);
        for (int i = 0; i < 5; i++) {
            x.book(i % 4, (i + 2) % 4, i % 2 == 0);
        }
        x.tale(6);
        x.tale(8);
        x.act(3, 2, 5);
        return x;
    }

    /** All becomes otherwise. */
    private static void spoils(FewerMan x) {
        Check.due("the tape is an INN", x.inn(), 2);
        Check.inn(x, "duck 9 p=0;less 5");
        Check.feed(x, "more 1234567");
        x.player(2, 9);
        for (int i = 0; i < 5; i++) {
            x.men(i, 20 - i);
        }
        for (int k = 0; k < 4; k++) {
            x.row(0, k, 9 - k);
        }
        x.play(4, 1, true);
        x.play(4, 2, false);
        x.book(-1, 0, true);
        for (int i = 0; i < 8; i++) {
            x.book(4, i % 4, true);
        }
        x.tale(-1);
        for (int i = 0; i < 8; i++) {
            x.tale(20 - i);
        }
        x.act(4, 0, 9);
    }

    private static void image() {
        Check.sentence("THE IMAGE is taken: how many PLAYERS there are.");
        FewerMan x = new FewerMan();
        Check.due("nobody", x.image(), 0);
        for (int i = 1; i <= 5; i++) {
            x.player(i, i);
            Check.due("how many", x.image(), i);
            Check.due("how many", x.image(), i);
        }
        x.men(0, 20);
        x.image();
        x.men(0, 1);
        x.undo();
        Check.due("the latest image", x.of(0, 2), 20);
        x.men(0, 3);
        x.image();
        x.undo();
        Check.due("the latest image", x.of(0, 2), 3);
        Check.due("what is taken stays", x.count(0), 5);
    }

    private static void undo() {
        Check.sentence("All is as THE IMAGE: how many PLAYERS. STATE: there is none.");
        Check.refused("no image", FewerMan::new, x -> x.undo(), STATE);
        Check.refused("no image", () -> five(0, 0, 0), x -> x.undo(), STATE);
        FewerMan x = new FewerMan();
        x.image();
        for (int time = 0; time < 3; time++) {
            for (int i = 0; i < 5; i++) {
                x.player(6 - i, i);
                x.men(i, 20);
            }
            x.book(0, 1, true);
            x.tale(3);
            Check.inn(x, "less 7");
            Check.feed(x, "less");
            x.play(0, 1, true);
            Check.due("nobody", x.undo(), 0);
            Check.due("nobody", Check.look(x), Check.look(new FewerMan()));
        }
        FewerMan y = new FewerMan();
        for (int i = 0; i < 5; i++) {
            y.player(i, i);
            Check.inn(y, "less " + i);
        }
        for (int i = 0; i < 100; i++) {
            y.feed('m');
        }
        for (int i = 0; i < 8; i++) {
            y.book(0, 1, true);
            y.tale(1);
        }
        Check.due("five", y.image(), 5);
        y.book(-1, 0, true);
        y.tale(-1);
        Check.due("five", y.undo(), 5);
        Check.due("full again: players", y.player(0, 0), FULL);
        Check.due("full again: INNS", y.inn(), FULL);
        Check.due("full again: the tape", y.feed('m'), FULL);
        Check.due("full again: BOOK", y.book(0, 1, true), FULL);
        Check.due("full again: TALES", y.tale(1), FULL);
        Check.due("the INN that held", y.told(1), 4);
    }

    private static void count() {
        Check.sentence("0 PLAYERS, 1 INNS, 2 GAMES of BOOK, 3 TALES, 4 signs of THE TAPE, 5 bodies that ran in the "
            + "latest act() (all, kept or not). NONE.");
        FewerMan x = full();
        int[] want = {4, 2, 5, 2, 18, 7};
        for (int what = 0; what < 6; what++) {
            Check.due("what " + what, x.count(what), want[what]);
            Check.due("what " + what + " of a new object", new FewerMan().count(what), 0);
        }
        for (int what : new int[] {MIN, MIN + 1, -1, 6, 7, 32, MAX}) {
            Check.refused("what " + what, BoundsOfActs::full, y -> y.count(what), NONE);
        }
        FewerMan y = new FewerMan();
        for (int i = 0; i < 5; i++) {
            y.player(4, 0);
            Check.inn(y, "less 1");
        }
        for (int i = 0; i < 8; i++) {
            y.book(0, 1, true);
            y.tale(1);
        }
        for (int i = 0; i < 100; i++) {
            y.feed(i);
        }
        y.act(0, 2, 0);
        int[] most = {5, 5, 8, 8, 100, 7};
        for (int what = 0; what < 6; what++) {
            Check.due("most of what " + what, y.count(what), most[what]);
        }
    }

    private static void manyCalls() {
        Check.sentence("An object is used for at most 512 calls after it has been made; what later calls answer is "
            + "free.");
        FewerMan x = new FewerMan();
        x.player(0, 4);
        x.player(1, 4);
        // Two calls until here; 255 GAMES and as many looks make 512.
        for (int i = 1; i <= 255; i++) {
            Check.due("MEN behind GAME " + i, x.play(0, 1, i % 2 == 0), i % 2 == 0 ? 8 : 9);
            Check.due("GAME " + i, x.told(0), i);
        }
        FewerMan y = new FewerMan();
        x = y;
        for (int i = 1; i <= 511; i++) {
            Check.due("a FAULT " + i, i % 2 == 1 ? y.feed('l') : y.inn(), i % 2 == 1 ? 1 : -11);
        }
        Check.due("the 512th", x.inn(), -11);
    }

    /** What each call changes, by the places of parts(); all else stays. */
    private static void onlyWhatIsTold() {
        Check.aboutNone();
        only("feed", x -> x.feed('x'), "tape");
        only("inn", x -> x.inn(), "tape inns less more push says looked");
        only("inn by a FAULT", x -> x.feed('?') > 0 ? x.inn() : 0, "tape");
        only("player", x -> x.player(3, 9), "players KIND v MEN ROW push says");
        only("men", x -> x.men(2, 19), "MEN push says");
        only("row", x -> x.row(0, 1, 0), "ROW push");
        only("play", x -> x.play(1, 2, true), "MEN GAME push says looked");
        only("book", x -> x.book(0, 1, true), "BOOK says looked");
        only("book -1", x -> x.book(-1, 0, true), "BOOK says looked");
        only("tale", x -> x.tale(9), "TALES looked");
        only("tale -1", x -> x.tale(-1), "TALES looked");
        only("act", x -> x.act(0, 0, 1), "ran trace");
        only("act of nobody", x -> x.act(9, 0, 1), "ran trace");
        only("no act", x -> x.act(0, 9, 1), "ran trace");
        only("image", x -> x.image(), "");
    }

    private static void only(String call, ToLongFunction<FewerMan> does, String may) {
        FewerMan x = full();
        String[] before = parts(x);
        does.applyAsLong(x);
        String[] behind = parts(x);
        for (int i = 0; i < before.length; i++) {
            String name = before[i].substring(0, before[i].indexOf(':'));
            if (!List.of(may.split(" ")).contains(name)) {
                Check.due(call + " leaves " + name, behind[i], before[i]);
            }
        }
    }

    private static String[] parts(FewerMan x) {
        int players = x.count(0);
        StringBuilder[] each = new StringBuilder[6];
        String[] names = {"KIND:", "v:", "MEN:", "ROW:", "push:", "says:"};
        for (int i = 0; i < 6; i++) {
            each[i] = new StringBuilder(names[i]);
        }
        for (int p = 0; p < players; p++) {
            for (int what = 0; what < 3; what++) {
                each[what].append(' ').append(x.of(p, what));
            }
            for (int k = 0; k < 4 && x.of(p, 0) == 6; k++) {
                int was = x.row(p, k, 0);
                x.row(p, k, was);
                each[3].append(' ').append(was);
            }
            each[4].append(' ').append(x.push(p, (p + 1) % players));
            each[5].append(' ').append(p < 4 ? x.says(p) : 0);
        }
        StringBuilder trace = new StringBuilder("trace:");
        for (int i = 0; i < 20; i++) {
            trace.append(' ').append(x.trace(i));
        }
        return new String[] {"players: " + players, each[0].toString(), each[1].toString(), each[2].toString(),
            each[3].toString(), each[4].toString(), each[5].toString(), trace.toString(), "GAME: " + x.told(0),
            "less: " + x.told(1), "more: " + x.told(2), "inns: " + x.count(1), "BOOK: " + x.count(2),
            "TALES: " + x.count(3), "tape: " + x.count(4), "ran: " + x.count(5), "looked: " + x.looked()};
    }
}
