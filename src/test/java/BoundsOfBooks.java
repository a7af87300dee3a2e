import java.util.function.Supplier;

/** Sentence by sentence: BOOK, LIKELY, SAYS, TALES, LOOKED at (promises 23 to 27). */
final class BoundsOfBooks {
    private static final int NONE = FewerMan.NONE, BAD = FewerMan.BAD, STATE = FewerMan.STATE, FULL = FewerMan.FULL;
    private static final int MIN = Integer.MIN_VALUE, MAX = Integer.MAX_VALUE;

    private BoundsOfBooks() {
    }

    static void all() {
        eightGames();
        book();
        likely();
        says();
        eightTales();
        looked();
        tale();
        lookedRefused();
    }

    private static FewerMan alike(int players) {
        FewerMan x = new FewerMan();
        for (int i = 0; i < players; i++) {
            x.player(0, 4);
        }
        return x;
    }

    private static FewerMan booked(int games) {
        FewerMan x = alike(2);
        for (int i = 0; i < games; i++) {
            x.book(0, 1, i % 3 == 0);
        }
        return x;
    }

    private static FewerMan tales(int tales) {
        FewerMan x = booked(8);
        for (int i = 0; i < tales; i++) {
            x.tale(i + 6);
        }
        return x;
    }

    private static void eightGames() {
        Check.sentence("BOOK told by hand: GAMES of two, each won by the one told first, or not, one behind the other "
            + "from now on; 8 at most (each with its two players).");
        FewerMan x = alike(3);
        x.men(0, 20);
        x.men(1, 1);
        for (int i = 1; i <= 8; i++) {
            Check.due("how many", i % 2 == 0 ? x.book(0, 1, true) : x.book(1, 0, false), i);
            Check.due("behind " + i, x.says(0), 20 - i);
            Check.due("behind " + i, x.says(1), 1 + i);
            Check.due("who is not in it", x.says(2), 8);
        }
        Check.refused("the ninth", () -> booked(8), y -> y.book(0, 1, true), FULL);
        Check.refused("the ninth", () -> booked(8), y -> y.book(1, 0, false), FULL);
        Check.due("told, not played", x.told(0), 0);
        Check.due("told, not played", x.of(0, 2), 20);
        // From now on: by MEN, GAME and INN as they are when it is asked.
        x.men(0, 3);
        Check.due("MEN otherwise", x.says(0), 1);
        Check.inn(x, "less 0;more 2");
        Check.due("another INN: who wins", x.says(0), 3);
        Check.due("another INN: who loses", x.says(1), 17);
        x.book(-1, 0, true);
        x.book(0, 1, true);
        x.book(1, 2, true);
        x.book(2, 0, true);
        Check.due("each with its two players", x.says(0), 5);
        Check.due("each with its two players", x.says(1), 3);
        Check.due("each with its two players", x.says(2), 10);
    }

    private static void book() {
        Check.sentence("A GAME comes to BOOK: how many there are (one -1: none then, 0, whatever the others are). "
            + "NONE; BAD; FULL.");
        for (int games : new int[] {0, 1, 7, 8}) {
            for (int other : new int[] {MIN, -1, 0, 1, 2, MAX}) {
                for (int won = 0; won < 2; won++) {
                    FewerMan x = booked(games);
                    Check.due("-1, " + other, x.book(-1, other, won == 1), 0);
                    Check.due("none then", x.count(2), 0);
                    Check.due("none then", x.says(0), 8);
                    Check.due("the first again", x.book(1, 0, true), 1);
                    Check.due("it alone", x.says(1), 7);
                }
            }
            for (int nobody : new int[] {MIN, -2, 2, 5, 31, MAX}) {
                Supplier<FewerMan> from = () -> booked(games);
                Check.refused("one " + nobody, from, x -> x.book(nobody, 0, true), NONE);
                Check.refused("NONE ahead of BAD", from, x -> x.book(nobody, nobody, true), NONE);
                Check.refused("other " + nobody, from, x -> x.book(0, nobody, true), NONE);
            }
            Check.refused("other -1", () -> booked(games), x -> x.book(0, -1, true), NONE);
            Check.refused("two are one", () -> booked(games), x -> x.book(0, 0, true), BAD);
            Check.refused("two are one", () -> booked(games), x -> x.book(1, 1, false), BAD);
        }
        FewerMan x = new FewerMan();
        Check.due("-1 with nobody", x.book(-1, -1, true), 0);
        Check.due("the eighth", booked(7).book(1, 0, true), 8);
        FewerMan y = tales(3);
        y.book(-1, 0, true);
        Check.due("TALES stay", y.count(3), 3);
    }

    private static void likely() {
        Check.sentence("LIKELY of a player: the strength (0 .. 9) by which, in place of its v, BOOK is most likely "
            + "(each GAME by MEN as BOOK brings them; of several the least).");
        Check.due("no GAME: all alike", alike(1).likely(0), 0);
        for (int v = 0; v <= 9; v++) {
            FewerMan x = new FewerMan();
            x.player(0, 9 - v);
            x.player(0, v);
            x.book(0, 1, true);
            // 9 of ten from 4 more than v on; v 6 to 9: there is no strength above 9, but that is the best then.
            Check.due("won against v " + v, x.likely(0), Math.min(9, v + 4));
            Check.due("v stays", x.of(0, 1), 9 - v);
            x.book(-1, 0, true);
            x.book(0, 1, false);
            Check.due("lost against v " + v, x.likely(0), 0);
        }
        FewerMan x = alike(3);
        x.book(0, 1, true);
        Check.due("not in BOOK: all alike", x.likely(2), 0);
        Check.due("who lost", x.likely(1), 0);
        x.book(0, 1, true);
        // Behind the first 7 and 9 MEN: 1 less. (5 + d) (4 + d) is most with 5 more.
        Check.due("by MEN as BOOK brings them", x.likely(0), 9);
        x.book(0, 1, false);
        x.book(0, 1, false);
        // 6 and 10 MEN: 2 less; 7 and 9: 1 less: (5 + d) (4 + d) (7 - d) (6 - d) is most with 1 more.
        Check.due("by MEN as BOOK brings them", x.likely(0), 5);
        x.book(-1, 0, true);
        x.book(0, 1, true);
        x.book(0, 1, false);
        // (5 + d) (6 - d) is alike with none and 1 more.
        Check.due("of several the least", x.likely(0), 4);
        FewerMan y = alike(2);
        for (int i = 0; i < 8; i++) {
            y.book(i % 2, 1 - i % 2, i % 2 == 0);
        }
        Check.due("eight won", y.likely(0) == 9 && y.likely(1) == 0 ? 1 : 0, 1);
        FewerMan z = new FewerMan();
        z.player(5, 9);
        z.player(0, 0);
        z.men(0, 3);
        z.men(1, 3);
        z.play(0, 1, true);
        z.play(0, 1, false);
        z.men(0, 3);
        z.men(1, 3);
        z.book(0, 1, true);
        // A PRIZE one at GAME 2 is not as SLY by strength 0 alone: 5 of ten; else 5 + v - 9 of ten: 5 with 9, too.
        Check.due("KINDS by that strength, too", z.likely(0), 0);
        FewerMan u = alike(2);
        u.play(0, 1, true);
        u.play(1, 0, true);
        Check.inn(u, "less 0;more 0;lift 3 p=0&g=3");
        u.book(0, 1, true);
        u.book(0, 1, false);
        // GAME goes on in BOOK: (5 + d) at GAME 2, (2 - d) at GAME 3, alike with 1 and 2 less.
        Check.due("GAME goes on", u.likely(0), 2);
        Check.sentence("LIKELY. NONE.");
        for (int nobody : new int[] {MIN, -1, 2, 5, 32, MAX}) {
            Check.refused("player " + nobody, () -> booked(3), w -> w.likely(nobody), NONE);
        }
    }

    private static void says() {
        Check.sentence("SAYS of a player: MEN of it behind BOOK.");
        Check.due("no GAME", alike(1).says(0), 8);
        FewerMan x = booked(8);
        // Won, lost, lost, won, lost, lost, won, lost.
        Check.due("behind eight", x.says(0), 10);
        Check.due("behind eight, the other one", x.says(1), 6);
        x.men(0, 1);
        Check.due("1 at least", x.says(0), 4);
        x.men(1, 20);
        Check.due("20 at most", x.says(1), 17);
        Check.sentence("SAYS. NONE.");
        for (int nobody : new int[] {MIN, -1, 2, 5, 32, MAX}) {
            Check.refused("player " + nobody, () -> booked(3), u -> u.says(nobody), NONE);
        }
    }

    private static void eightTales() {
        Check.sentence("TALES told by hand: MEN of player 0 behind 1, 2, 3 .. GAMES of BOOK; 8 at most:");
        FewerMan x = alike(2);
        for (int i = 1; i <= 8; i++) {
            Check.due("how many", x.tale(8 + i), i);
        }
        Check.refused("the ninth", () -> tales(8), y -> y.tale(1), FULL);
        for (int i = 1; i <= 8; i++) {
            Check.due("as far as BOOK goes", x.looked(), i - 1);
            x.book(0, 1, false);
        }
        Check.due("as told", x.looked(), -5);
        x.men(0, 9);
        Check.due("of player 0, from now on", x.looked(), 0);
    }

    private static void looked() {
        Check.sentence("LOOKED at: the first that is otherwise, or for which BOOK has no GAME (-5: none).");
        for (int wrong = 0; wrong < 8; wrong++) {
            FewerMan x = alike(3);
            for (int i = 0; i < 8; i++) {
                x.book(i % 2 == 0 ? 0 : 2, 1, true);
                // Behind 1, 2, 3 .. GAMES player 0 has 7, 7, 6, 6 ..
                x.tale(7 - i / 2 + (i == wrong ? 1 : 0));
                Check.due("otherwise: " + wrong, x.looked(), i < wrong ? -5 : wrong);
            }
        }
        FewerMan x = alike(2);
        Check.due("no TALE, no GAME", x.looked(), -5);
        x.book(1, 0, true);
        Check.due("no TALE", x.looked(), -5);
        x.tale(9);
        Check.due("as told", x.looked(), -5);
        x.tale(20);
        Check.due("BOOK has no GAME for it", x.looked(), 1);
        x.tale(7);
        Check.due("the first", x.looked(), 1);
        x.book(1, 0, true);
        Check.due("otherwise", x.looked(), 1);
        x.book(-1, 0, true);
        Check.due("BOOK has none", x.looked(), 0);
        x.tale(-1);
        Check.due("no TALE", x.looked(), -5);
        FewerMan y = alike(3);
        y.book(1, 2, true);
        y.tale(8);
        Check.due("a GAME without player 0", y.looked(), -5);
        Check.inn(y, "less 7;more 12");
        y.book(0, 1, true);
        y.tale(1);
        y.book(0, 1, false);
        y.tale(13);
        Check.due("1 and 13", y.looked(), -5);
        y.men(0, 20);
        y.tale(-1);
        y.tale(20);
        y.tale(13);
        y.tale(20);
        Check.due("20 at most", y.looked(), -5);
    }

    private static void tale() {
        Check.sentence("A TALE comes: how many there are (men -1: none then, 0). BAD: men (1 .. 20); FULL.");
        for (int there : new int[] {0, 1, 7, 8}) {
            FewerMan x = tales(there);
            Check.due("-1", x.tale(-1), 0);
            Check.due("none then", x.count(3), 0);
            Check.due("BOOK stays", x.count(2), 8);
            Check.due("the first again", x.tale(7), 1);
            Check.due("it alone", x.looked(), -5);
            for (int men : new int[] {MIN, MIN + 1, -2, 0, 21, 22, 65537, MAX}) {
                Check.refused("men " + men, () -> tales(there), y -> y.tale(men), BAD);
            }
        }
        Check.refused("FULL", () -> tales(8), y -> y.tale(20), FULL);
        Check.refused("FULL", () -> tales(8), y -> y.tale(1), FULL);
        FewerMan x = new FewerMan();
        Check.due("-1 of none", x.tale(-1), 0);
        for (int men = 1; men <= 20; men++) {
            Check.due("men " + men, x.tale(men), (men - 1) % 8 + 1);
            if (men % 8 == 0) {
                x.tale(-1);
            }
        }
    }

    private static void lookedRefused() {
        Check.sentence("LOOKED at; -5. STATE: there is no player.");
        FewerMan x = new FewerMan();
        Check.refused("nobody", x, x::looked, STATE);
        x.tale(8);
        Check.refused("nobody, a TALE", x, x::looked, STATE);
        x.book(-1, 0, true);
        Check.refused("nobody, a TALE", x, x::looked, STATE);
        x.image();
        x.player(0, 0);
        Check.due("one alone", x.looked(), 0);
        x.undo();
        Check.refused("nobody again", x, x::looked, STATE);
        Check.due("one alone, no TALE", alike(1).looked(), -5);
    }
}
