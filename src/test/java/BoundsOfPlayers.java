/** Sentence by sentence: players, their KINDS, strengths, MEN and ROWS, PUSH, ODDS, a GAME (promises 1, 4 to 11). */
final class BoundsOfPlayers {
    private static final int NONE = FewerMan.NONE, BAD = FewerMan.BAD, STATE = FewerMan.STATE, FULL = FewerMan.FULL;
    private static final int MIN = Integer.MIN_VALUE, MAX = Integer.MAX_VALUE;

    private BoundsOfPlayers() {
    }

    static void all() {
        nobody();
        fivePlayers();
        kinds();
        strength();
        menAtFirst();
        rowAtFirst();
        gameAtFirst();
        ofPlayers();
        menBecome();
        rowBecomes();
        toldNumbers();
        master();
        grand();
        sly();
        prize();
        newOne();
        toldOne();
        pushRefused();
        odds();
        oddsRefused();
        menOfGame();
        lastGame();
        play();
    }

    private static FewerMan two(int kind, int v, int men, int others) {
        FewerMan x = new FewerMan();
        x.player(kind, v);
        x.player(0, 0);
        x.men(0, men);
        x.men(1, others);
        return x;
    }

    /** GAME becomes so many more; MEN are put back. */
    private static void gamesGo(FewerMan x, int games) {
        int m = x.of(0, 2);
        int o = x.of(1, 2);
        for (int i = 0; i < games; i++) {
            x.play(0, 1, true);
        }
        x.men(0, m);
        x.men(1, o);
    }

    private static void nobody() {
        Check.sentence("Nobody, no INN.");
        FewerMan x = new FewerMan();
        for (int what = 0; what < 6; what++) {
            Check.due("count " + what, x.count(what), 0);
        }
        Check.due("of", x.of(0, 0), NONE);
        Check.due("men", x.men(0, 1), NONE);
        Check.due("row", x.row(0, 0, 0), NONE);
        Check.due("push", x.push(0, 1), -10001);
        Check.due("odds", x.odds(0, 1), NONE);
        Check.due("play", x.play(0, 1, true), NONE);
        Check.due("wins", x.wins(0, 1, 0, 0, 0), FewerMan.NO);
        Check.due("mean", x.mean(0, 1, 0, 0), FewerMan.NO);
        Check.due("series", x.series(0, 1, 1, 0), FewerMan.NO);
        Check.due("ends", x.ends(0, 1, 0, 0), FewerMan.NO);
        Check.due("even", x.even(0, 1), NONE);
        Check.due("purpose", x.purpose(0, 1, 1, 0), FewerMan.NO);
        Check.due("loses", x.loses(0, 1, 1), NONE);
        Check.due("order", x.order(0, 0, 0), NONE);
        Check.due("orderMean", x.orderMean(0, 0, 0), FewerMan.NO);
        Check.due("stakes", x.stakes(0, 1, 0, 0), FewerMan.NO);
        Check.due("table", x.table(0, 1, 0), FewerMan.NO);
        Check.due("book", x.book(0, 1, true), NONE);
        Check.due("likely", x.likely(0), NONE);
        Check.due("says", x.says(0), NONE);
        Check.due("looked", x.looked(), STATE);
        Check.due("act", x.act(0, 0, 1), 0);
        Check.due("trace", x.trace(0), NONE);
        Check.due("as", x.as(0, 0), NONE);
        Check.due("undo", x.undo(), STATE);
        Check.due("the first INN", Check.inn(x, "less 1"), 0);
    }

    private static void fivePlayers() {
        Check.sentence("PLAYERS are numbered from 0 on, 5 at most, each of a KIND:");
        FewerMan x = new FewerMan();
        for (int i = 0; i < 5; i++) {
            Check.due("nobody yet " + i, x.of(i, 0), NONE);
            Check.due("player", x.player(6 - i, 2 * i), i);
            Check.due("how many", x.count(0), i + 1);
        }
        for (int i = 0; i < 5; i++) {
            Check.due("KIND of " + i, x.of(i, 0), 6 - i);
            Check.due("v of " + i, x.of(i, 1), 2 * i);
        }
        Check.refused("the sixth", x, () -> x.player(0, 0), FULL);
        Check.due("a number beyond", x.of(5, 0), NONE);
        Check.due("a number below", x.of(-1, 0), NONE);
    }

    private static void kinds() {
        Check.sentence("0 PLAYER; 1 MASTER, 2 SLY, 3 NEW under PLAYER; 4 GRAND under MASTER; "
            + "5 PRIZE under SLY; 6 TOLD under NEW;");
        int[][] taken = {{0}, {0, 1}, {0, 2}, {0, 3}, {0, 1, 4}, {0, 2, 5}, {0, 3, 6}};
        for (int kind = 0; kind <= 6; kind++) {
            FewerMan x = new FewerMan();
            Check.due("player of KIND " + kind, x.player(kind, 9), 0);
            Check.due("KIND", x.of(0, 0), kind);
            for (int k = 0; k <= 6; k++) {
                int want = -6;
                for (int one : taken[kind]) {
                    want = one == k ? 9 : want;
                }
                Check.due("KIND " + kind + " taken for " + k, x.as(0, k), want);
            }
        }
        for (int kind : new int[] {MIN, -1, 7, 8, MAX}) {
            FewerMan x = new FewerMan();
            Check.refused("KIND " + kind, x, () -> x.player(kind, 3), NONE);
        }
    }

    private static void strength() {
        Check.sentence("a strength v (0 .. 9),");
        for (int v = 0; v <= 9; v++) {
            FewerMan x = new FewerMan();
            Check.due("player of v " + v, x.player(0, v), 0);
            Check.due("v", x.of(0, 1), v);
        }
        for (int v : new int[] {MIN, -1, 10, 11, MAX}) {
            FewerMan x = new FewerMan();
            Check.refused("v " + v, x, () -> x.player(0, v), BAD);
        }
        Check.sentence("A player: its number. NONE: kind; BAD: v; FULL.");
        FewerMan x = new FewerMan();
        Check.refused("NONE ahead of BAD", x, () -> x.player(7, 10), NONE);
        Check.refused("NONE ahead of BAD", x, () -> x.player(-1, -1), NONE);
        for (int i = 0; i < 5; i++) {
            Check.due("its number", x.player(i, i), i);
        }
        Check.refused("NONE ahead of BAD and FULL", x, () -> x.player(MAX, MIN), NONE);
        Check.refused("NONE ahead of FULL", x, () -> x.player(-1, 0), NONE);
        Check.refused("BAD ahead of FULL", x, () -> x.player(6, -1), BAD);
        Check.refused("BAD ahead of FULL", x, () -> x.player(0, 10), BAD);
        Check.refused("FULL", x, () -> x.player(6, 9), FULL);
    }

    private static void menAtFirst() {
        Check.sentence("MEN (1 .. 20; 8 at first);");
        for (int kind = 0; kind <= 6; kind++) {
            FewerMan x = new FewerMan();
            x.image();
            x.player(kind, 0);
            Check.due("MEN at first", x.of(0, 2), 8);
            Check.due("20", x.men(0, 20), 8);
            x.undo();
            x.player(kind, 0);
            Check.due("MEN at first, of another one of that number", x.of(0, 2), 8);
            for (int n = 1; n <= 20; n++) {
                x.men(0, n);
                Check.due("MEN", x.of(0, 2), n);
            }
            for (int n : new int[] {MIN, -1, 0, 21, 22, MAX}) {
                Check.refused("MEN " + n, x, () -> x.men(0, n), BAD);
            }
        }
    }

    private static void rowAtFirst() {
        Check.sentence("TOLD ones a ROW of four numbers (0 .. 9; 4 at first).");
        FewerMan x = new FewerMan();
        x.player(3, 1);
        x.image();
        for (int time = 0; time < 2; time++) {
            x.player(6, 1);
            for (int k = 0; k < 4; k++) {
                Check.due("at first " + k, x.row(1, k, 9), 4);
                Check.due("9 " + k, x.row(1, k, 0), 9);
                Check.due("0 " + k, x.row(1, k, k + 5), 0);
            }
            for (int k = 0; k < 4; k++) {
                Check.due("each its own " + k, x.row(1, k, 9), k + 5);
            }
            // Who comes next with that number has a ROW of its own.
            x.undo();
        }
        x.player(6, 1);
        for (int k : new int[] {MIN, -1, 4, 5, MAX}) {
            Check.refused("the number " + k, x, () -> x.row(1, k, 4), NONE);
        }
        for (int n : new int[] {MIN, -1, 10, 11, MAX}) {
            Check.refused("n " + n, x, () -> x.row(1, 0, n), BAD);
            Check.refused("n " + n, x, () -> x.row(1, 3, n), BAD);
        }
    }

    private static void gameAtFirst() {
        Check.sentence("GAME: 0 at first.");
        FewerMan x = two(0, 0, 8, 8);
        Check.due("GAME", x.told(0), 0);
        x.play(0, 1, true);
        Check.due("GAME", x.told(0), 1);
    }

    private static void ofPlayers() {
        Check.sentence("Of a player what 0 KIND, 1 v, 2 MEN. NONE.");
        FewerMan x = new FewerMan();
        x.player(0, 0);
        x.player(6, 9);
        x.men(1, 20);
        Check.due("KIND", x.of(1, 0), 6);
        Check.due("v", x.of(1, 1), 9);
        Check.due("MEN", x.of(1, 2), 20);
        Check.due("KIND", x.of(0, 0), 0);
        Check.due("v", x.of(0, 1), 0);
        for (int what : new int[] {MIN, -1, 3, 4, MAX}) {
            Check.refused("what " + what, x, () -> x.of(0, what), NONE);
        }
        for (int player : new int[] {MIN, -1, 2, 5, 32, MAX}) {
            Check.refused("player " + player, x, () -> x.of(player, 2), NONE);
        }
    }

    private static void menBecome() {
        Check.sentence("MEN of a player become n (1 .. 20): what they were. NONE; BAD.");
        FewerMan x = two(0, 0, 8, 8);
        Check.due("were", x.men(0, 1), 8);
        Check.due("were", x.men(0, 20), 1);
        Check.due("were", x.men(0, 20), 20);
        Check.due("of another one", x.of(1, 2), 8);
        for (int n : new int[] {MIN, -1, 0, 21, MAX}) {
            Check.refused("n " + n, x, () -> x.men(0, n), BAD);
            Check.refused("NONE ahead of BAD, n " + n, x, () -> x.men(2, n), NONE);
        }
        for (int player : new int[] {MIN, -1, 2, MAX}) {
            Check.refused("player " + player, x, () -> x.men(player, 5), NONE);
        }
    }

    private static void rowBecomes() {
        Check.sentence("The k-th number (0 .. 3) of the ROW of a TOLD one becomes n (0 .. 9): what it was. "
            + "NONE: player, k; BAD; STATE: another KIND.");
        for (int kind = 0; kind < 6; kind++) {
            FewerMan x = two(kind, 0, 8, 8);
            for (int k = 0; k < 4; k++) {
                int at = k;
                Check.refused("KIND " + kind, x, () -> x.row(0, at, 0), STATE);
                Check.refused("KIND " + kind, x, () -> x.row(0, at, 9), STATE);
                Check.refused("BAD ahead of STATE", x, () -> x.row(0, at, 10), BAD);
                Check.refused("BAD ahead of STATE", x, () -> x.row(0, at, -1), BAD);
            }
            Check.refused("NONE ahead of STATE", x, () -> x.row(0, 4, 0), NONE);
            Check.refused("NONE ahead of BAD and STATE", x, () -> x.row(0, -1, 10), NONE);
            Check.refused("NONE ahead of BAD", x, () -> x.row(2, 0, 10), NONE);
        }
        FewerMan x = two(6, 0, 8, 8);
        for (int player : new int[] {MIN, -1, 2, MAX}) {
            Check.refused("player " + player, x, () -> x.row(player, 0, 4), NONE);
        }
        Check.refused("NONE ahead of BAD", x, () -> x.row(0, 4, 10), NONE);
        Check.due("what it was", x.row(0, 3, 9), 4);
        Check.due("what it was", x.row(0, 3, 9), 9);
        Check.due("another number", x.row(0, 0, 4), 4);
    }

    private static void toldNumbers() {
        Check.sentence("What 0 GAME, 1 less, 2 more. NONE.");
        FewerMan x = two(0, 0, 8, 8);
        gamesGo(x, 11);
        Check.inn(x, "less 12;more 13");
        Check.due("GAME", x.told(0), 11);
        Check.due("less", x.told(1), 12);
        Check.due("more", x.told(2), 13);
        for (int what : new int[] {MIN, -1, 3, 4, MAX}) {
            Check.refused("what " + what, x, () -> x.told(what), NONE);
        }
    }

    private static void master() {
        Check.sentence("MASTER: 2 more, if it has fewer MEN.");
        for (int m = 1; m <= 20; m++) {
            Check.due("as many, " + m, two(1, 5, m, m).push(0, 1), 5);
            if (m < 20) {
                Check.due("one fewer, " + m, two(1, 5, m, m + 1).push(0, 1), 7);
                Check.due("one more, " + m, two(1, 5, m + 1, m).push(0, 1), 5);
            }
        }
        Check.due("by far fewer", two(1, 0, 1, 20).push(0, 1), 2);
        Check.due("by far more", two(1, 9, 20, 1).push(0, 1), 9);
    }

    private static void grand() {
        Check.sentence("GRAND: as MASTER, 1 more.");
        for (int m = 1; m <= 20; m++) {
            Check.due("as many, " + m, two(4, 5, m, m).push(0, 1), 6);
            if (m < 20) {
                Check.due("one fewer, " + m, two(4, 5, m, m + 1).push(0, 1), 8);
                Check.due("one more, " + m, two(4, 5, m + 1, m).push(0, 1), 6);
            }
        }
    }

    private static void sly() {
        Check.sentence("SLY: 9 less, if it has fewer MEN than 4.");
        for (int m = 1; m <= 20; m++) {
            Check.due("MEN " + m, two(2, 5, m, 2).push(0, 1), m < 4 ? -4 : 5);
            Check.due("MEN " + m, two(2, 0, m, 20).push(0, 1), m < 4 ? -9 : 0);
        }
        FewerMan x = two(2, 5, 3, 8);
        gamesGo(x, 30);
        Check.due("at any GAME", x.push(0, 1), -4);
    }

    private static void prize() {
        Check.sentence("PRIZE: as SLY, but not, if GAME is v and 2, together, or more.");
        for (int v = 0; v <= 9; v++) {
            FewerMan x = two(5, v, 3, 8);
            for (int game = 0; game <= 14; game++) {
                Check.due("v " + v + ", GAME " + game + ", MEN 3", x.push(0, 1), game < v + 2 ? v - 9 : v);
                x.men(0, 4);
                Check.due("v " + v + ", GAME " + game + ", MEN 4", x.push(0, 1), v);
                x.men(0, 3);
                gamesGo(x, 1);
            }
        }
    }

    private static void newOne() {
        Check.sentence("NEW: 1 less, if GAME is below 3.");
        FewerMan x = two(3, 0, 8, 8);
        int[] want = {-1, -1, -1, 0, 0, 0, 0, 0, 0, 0, 0, 0};
        for (int game = 0; game < want.length; game++) {
            Check.due("GAME " + game, x.push(0, 1), want[game]);
            gamesGo(x, 1);
        }
    }

    private static void toldOne() {
        Check.sentence("TOLD: as NEW, and the number of its ROW at GAME modulo 4, less 4.");
        FewerMan x = two(6, 5, 8, 8);
        int[] row = {9, 0, 4, 3};
        for (int k = 0; k < 4; k++) {
            x.row(0, k, row[k]);
        }
        int[] want = {9, 0, 4, 4, 10, 1, 5, 4, 10, 1, 5, 4, 10};
        for (int game = 0; game < want.length; game++) {
            Check.due("GAME " + game, x.push(0, 1), want[game]);
            gamesGo(x, 1);
        }
    }

    private static void pushRefused() {
        Check.sentence("PUSH of the one against the other one. -10001: NONE; -10002: BAD.");
        FewerMan x = two(1, 3, 8, 9);
        Check.due("PUSH", x.push(0, 1), 5);
        Check.due("PUSH", x.push(1, 0), 0);
        for (int nobody : new int[] {MIN, -1, 2, MAX}) {
            Check.refused("one", x, () -> x.push(nobody, 0), -10001);
            Check.refused("other", x, () -> x.push(0, nobody), -10001);
            Check.refused("NONE ahead of BAD", x, () -> x.push(nobody, nobody), -10001);
        }
        Check.refused("two are one", x, () -> x.push(0, 0), -10002);
        Check.refused("two are one", x, () -> x.push(1, 1), -10002);
    }

    private static void odds() {
        Check.sentence("ODDS of ten that it wins: 5, and its PUSH, less that of the other one, and MEN that it has "
            + "more (or less) by 2 (cut toward 0), together; 1 .. 9, else the bound.");
        int[] halves = {0, 0, 1, 1, 2, 2, 3, 3, 4, 4, 5, 5, 6, 6, 7, 7, 8, 8, 9, 9};
        for (int v = -9; v <= 9; v++) {
            FewerMan x = new FewerMan();
            x.player(0, Math.max(0, v));
            x.player(0, Math.max(0, -v));
            for (int gap = 0; gap < 20; gap++) {
                x.men(0, 1 + gap);
                x.men(1, 1);
                int more = Math.min(9, Math.max(1, 5 + v + halves[gap]));
                Check.due("v " + v + ", MEN more " + gap, x.odds(0, 1), more);
                Check.due("v " + v + ", MEN more " + gap + ", of the other one", x.odds(1, 0), 10 - more);
                x.men(0, 20 - gap);
                x.men(1, 20);
                int less = Math.min(9, Math.max(1, 5 + v - halves[gap]));
                Check.due("v " + v + ", MEN less " + gap, x.odds(0, 1), less);
            }
        }
        FewerMan x = two(0, 0, 8, 8);
        int[][] lifts = {{3, 8}, {4, 9}, {5, 9}, {99, 9}};
        for (int[] lift : lifts) {
            x.image();
            Check.inn(x, "lift " + lift[0] + " p=0");
            Check.due("lifted by " + lift[0], x.odds(0, 1), lift[1]);
            Check.due("lifted by " + lift[0] + ", of the other one", x.odds(1, 0), 10 - lift[1]);
            x.undo();
        }
    }

    private static void oddsRefused() {
        Check.sentence("ODDS of ten that the one wins. NONE; BAD.");
        FewerMan x = two(0, 1, 8, 8);
        Check.due("ODDS", x.odds(0, 1), 6);
        for (int nobody : new int[] {MIN, -1, 2, MAX}) {
            Check.refused("one", x, () -> x.odds(nobody, 0), NONE);
            Check.refused("other", x, () -> x.odds(0, nobody), NONE);
            Check.refused("NONE ahead of BAD", x, () -> x.odds(nobody, nobody), NONE);
        }
        Check.refused("two are one", x, () -> x.odds(0, 0), BAD);
        Check.refused("two are one", x, () -> x.odds(1, 1), BAD);
    }

    private static void menOfGame() {
        Check.sentence("A GAME of two: MEN of who wins are less fewer (1 at least), of who loses more more "
            + "(20 at most); GAME is 1 more (9999 at most).");
        // less, more, MEN of who wins ahead and behind, MEN of who loses ahead and behind
        games(new int[][] {{1, 1, 8, 7, 8, 9}, {1, 1, 2, 1, 19, 20}, {1, 1, 1, 1, 20, 20}, {1, 1, 20, 19, 1, 2},
            {0, 0, 8, 8, 8, 8}, {0, 0, 1, 1, 20, 20}, {0, 0, 20, 20, 1, 1}, {2, 3, 4, 2, 16, 19}, {2, 3, 3, 1, 17, 20},
            {2, 3, 2, 1, 18, 20}, {2, 3, 1, 1, 19, 20}, {19, 19, 20, 1, 1, 20}, {18, 18, 20, 2, 1, 19},
            {20, 20, 20, 1, 1, 20}, {99, 99, 20, 1, 1, 20}, {99, 0, 8, 1, 8, 8}, {0, 99, 8, 8, 8, 20}});
    }

    private static void games(int[][] cases) {
        for (int[] c : cases) {
            for (int way = 0; way < 4; way++) {
                int winner = way & 1;
                int loser = 1 - winner;
                FewerMan x = two(0, 0, 8, 8);
                if (c[0] != 1 || c[1] != 1) {
                    Check.inn(x, "less " + c[0] + ";more " + c[1]);
                }
                x.men(winner, c[2]);
                x.men(loser, c[4]);
                String what = "less " + c[0] + ", more " + c[1] + ", MEN " + c[2] + " and " + c[4];
                boolean first = way < 2;
                Check.due(what, first ? x.play(winner, loser, true) : x.play(loser, winner, false),
                    first ? c[3] : c[5]);
                Check.due(what + ", of who wins", x.of(winner, 2), c[3]);
                Check.due(what + ", of who loses", x.of(loser, 2), c[5]);
                Check.due("GAME", x.told(0), 1);
            }
        }
    }

    private static void lastGame() {
        Check.sentence("STATE: GAME is 9999.");
        FewerMan x = two(0, 1, 8, 8);
        // By more calls than the document tells of; no fewer lead there.
        gamesGo(x, 9998);
        Check.due("GAME", x.told(0), 9998);
        Check.due("the last GAME", x.play(0, 1, true), 7);
        Check.due("GAME", x.told(0), 9999);
        Check.refused("no more", x, () -> x.play(0, 1, true), STATE);
        Check.refused("no more", x, () -> x.play(1, 0, false), STATE);
        Check.refused("BAD ahead of STATE", x, () -> x.play(0, 0, true), BAD);
        Check.refused("NONE ahead of STATE", x, () -> x.play(0, 2, true), NONE);
        Check.sentence("goes on from how all is (GAME beyond 9999, too),");
        beyond(x);
    }

    /** At GAME 9999 g is 9, then 0 (10000), 1, 2 ..; a ROW is at 3, then 0. */
    private static void beyond(FewerMan x) {
        x.player(6, 0);
        x.men(0, 8);
        x.men(1, 8);
        x.row(2, 3, 9);
        x.row(2, 0, 4);
        x.row(2, 1, 8);
        Check.inn(x, "less 0;more 0;lift 1 p=0&g=9;lift 2 p=0&g=0;lift 3 p=0&g=1");
        // ODDS of 0 (v 1) against 1 (v 0): 7, 8, 9, then 6.
        Check.fraction("wins", x.wins(0, 1, 4, 4, 0), x.wins(0, 1, 4, 4, 1), 189, 625);
        Check.fraction("mean", x.mean(0, 1, 12, 0), x.mean(0, 1, 12, 1), 8, 1);
        Check.fraction("series", x.series(0, 1, 2, 0), x.series(0, 1, 2, 1), 451, 500);
        Check.fraction("purpose", x.purpose(0, 1, 3, 0), x.purpose(0, 1, 3, 1), 9, 10);
        Check.fraction("stakes", x.stakes(0, 1, 4, 0), x.stakes(0, 1, 4, 1), 16, 1);
        // 0 against 2: 5 + (1 + 1) - 5 and 5 + (1 + 2) - 0; against 1: 7, then 8; 1 first: 7 + 8; 2 first: 2 + 8.
        Check.fraction("orderMean", x.orderMean(0, 6, 0), x.orderMean(0, 6, 1), 3, 2);
        Check.due("order", x.order(0, 6, 0), 1);
        Check.fraction("table", x.table(2, 2, 0), x.table(2, 2, 1), 29, 100);
        x.men(0, 1);
        Check.fraction("ends", x.ends(1, 0, 12, 0), x.ends(1, 0, 12, 1), 0, 1);
        x.men(0, 8);
        for (int i = 0; i < 8; i++) {
            x.book(0, 1, i % 2 == 0);
        }
        Check.due("says", x.says(0), 8);
        x.book(-1, 0, true);
        x.book(0, 1, true);
        x.book(0, 1, true);
        x.book(0, 1, true);
        // ODDS 6 + v, 7 + v, 8 + v: most, and least, with v 3.
        Check.due("likely", x.likely(0), 3);
        x.tale(8);
        x.tale(8);
        Check.due("looked", x.looked(), -5);
        Check.due("GAME", x.told(0), 9999);
    }

    private static void play() {
        Check.sentence("A GAME, won by the one, or by the other one: MEN of the one then. NONE; BAD; "
            + "STATE: GAME is 9999.");
        FewerMan x = two(0, 1, 8, 8);
        Check.due("won by the one", x.play(0, 1, true), 7);
        Check.due("won by the other one", x.play(0, 1, false), 8);
        Check.due("won by the one", x.play(1, 0, true), 7);
        Check.due("the other one", x.of(0, 2), 9);
        for (int nobody : new int[] {MIN, -1, 2, MAX}) {
            Check.refused("one", x, () -> x.play(nobody, 0, true), NONE);
            Check.refused("other", x, () -> x.play(0, nobody, false), NONE);
            Check.refused("NONE ahead of BAD", x, () -> x.play(nobody, nobody, true), NONE);
        }
        Check.refused("two are one", x, () -> x.play(0, 0, true), BAD);
        Check.refused("two are one", x, () -> x.play(1, 1, false), BAD);
    }
}
