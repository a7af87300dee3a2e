/** Promises 23 to 27: BOOK, LIKELY, SAYS, TALES, LOOKED. */
public final class BooksTest {
    private BooksTest() {
    }

    public static void main(String[] args) {
        book();
        likely();
        says();
        tale();
        looked();
        Check.end("BooksTest");
    }

    private static FewerMan three() {
        FewerMan x = new FewerMan();
        x.player(0, 4);
        x.player(0, 4);
        x.player(1, 4);
        return x;
    }

    private static void book() {
        FewerMan x = new FewerMan();
        Check.due("23: none then, without players", x.book(-1, 7, true), 0);
        Check.refused("23: nobody", x, () -> x.book(0, 1, true), FewerMan.NONE);
        x.player(0, 1);
        x.player(0, 1);
        for (int i = 1; i <= 8; i++) {
            Check.due("23: how many", x.book(i % 2, 1 - i % 2, i % 3 == 0), i);
            Check.due("23: counted", x.count(2), i);
        }
        Check.refused("23: FULL", x, () -> x.book(0, 1, true), FewerMan.FULL);
        Check.refused("23: BAD ahead of FULL", x, () -> x.book(1, 1, true), FewerMan.BAD);
        Check.refused("23: NONE ahead of FULL", x, () -> x.book(0, 2, true), FewerMan.NONE);
        Check.refused("23: NONE", x, () -> x.book(0, -1, true), FewerMan.NONE);
        Check.refused("23: NONE", x, () -> x.book(-2, 0, true), FewerMan.NONE);
        Check.due("23: a GAME told is not played", x.told(0), 0);
        Check.due("23: none then", x.book(-1, Integer.MAX_VALUE, false), 0);
        Check.due("23: none", x.count(2), 0);
        Check.due("23: one again", x.book(0, 1, true), 1);
    }

    private static void likely() {
        FewerMan x = three();
        Check.refused("24: nobody", x, () -> x.likely(3), FewerMan.NONE);
        Check.refused("24: nobody", x, () -> x.likely(-1), FewerMan.NONE);
        Check.due("24: no BOOK", x.likely(0), 0);
        x.book(0, 1, true);
        // 9 of ten by v 8 and 9: the least.
        Check.due("24: won", x.likely(0), 8);
        Check.due("24: lost", x.likely(1), 0);
        Check.due("24: not in it", x.likely(2), 0);
        x.book(-1, 0, true);
        x.book(0, 1, false);
        Check.due("24: lost by the one told first", x.likely(0), 0);
        Check.due("24: won by the one told last", x.likely(1), 8);
        x.book(0, 1, true);
        // Behind the first: 9 and 7 MEN. By v: (9 - v) (v + 2) of a hundred is most by v 3 and 4.
        Check.due("24: by MEN as BOOK brings them", x.likely(0), 3);
        Check.due("24: changes nothing", x.of(0, 1), 4);
        FewerMan y = new FewerMan();
        y.player(5, 0);
        y.player(0, 0);
        y.men(0, 3);
        y.men(1, 3);
        y.play(0, 1, true);
        y.play(0, 1, false);
        y.book(0, 1, true);
        // A PRIZE one at GAME 2 is not as SLY by v 0 alone; by v 9 its PUSH is 0, too: of several the least.
        Check.due("24: v of KINDS, too", y.likely(0), 0);
        y.book(-1, 0, true);
        y.book(0, 1, false);
        Check.due("24: v of KINDS, too", y.likely(0), 1);
        // GAME goes on in BOOK: at GAME 3 strength 1 is not as SLY, either.
        y.book(-1, 0, true);
        y.player(0, 1);
        y.book(1, 2, false);
        y.book(0, 2, true);
        y.men(2, 3);
        Check.due("24: GAME goes on", y.likely(0), 1);
    }

    private static void says() {
        FewerMan x = three();
        Check.refused("25: nobody", x, () -> x.says(3), FewerMan.NONE);
        Check.refused("25: nobody", x, () -> x.says(-1), FewerMan.NONE);
        Check.due("25: no BOOK", x.says(0), 8);
        x.book(0, 1, true);
        x.book(2, 0, true);
        x.book(2, 1, false);
        Check.due("25: behind BOOK", x.says(0), 8);
        Check.due("25: behind BOOK", x.says(1), 8);
        Check.due("25: behind BOOK", x.says(2), 8);
        x.book(1, 2, true);
        Check.due("25: behind BOOK", x.says(1), 7);
        Check.due("25: behind BOOK", x.says(2), 9);
        Check.inn(x, "less 2;more 5");
        Check.due("25: by the INN", x.says(0), 8 - 2 + 5);
        Check.due("25: by the INN", x.says(1), 8 + 5 - 2 - 2);
        x.men(2, 20);
        Check.due("25: from now on", x.says(2), 20);
        x.men(1, 1);
        Check.due("25: from now on", x.says(1), 2);
        Check.due("25: changes nothing", x.of(1, 2), 1);
        Check.due("25: changes nothing", x.told(0), 0);
    }

    private static void tale() {
        FewerMan x = new FewerMan();
        Check.due("26: none then", x.tale(-1), 0);
        Check.refused("26: 0", x, () -> x.tale(0), FewerMan.BAD);
        Check.refused("26: 21", x, () -> x.tale(21), FewerMan.BAD);
        Check.refused("26: -2", x, () -> x.tale(-2), FewerMan.BAD);
        for (int i = 1; i <= 8; i++) {
            Check.due("26: how many", x.tale(i == 1 ? 20 : i - 1), i);
            Check.due("26: counted", x.count(3), i);
        }
        Check.refused("26: FULL", x, () -> x.tale(1), FewerMan.FULL);
        Check.refused("26: BAD ahead of FULL", x, () -> x.tale(21), FewerMan.BAD);
        Check.due("26: none then", x.tale(-1), 0);
        Check.due("26: none", x.count(3), 0);
    }

    private static void looked() {
        FewerMan x = new FewerMan();
        Check.refused("27: there is no player", x, x::looked, FewerMan.STATE);
        x.tale(7);
        Check.refused("27: there is no player", x, x::looked, FewerMan.STATE);
        x.player(0, 1);
        Check.due("27: BOOK has no GAME", x.looked(), 0);
        x.player(0, 1);
        x.player(0, 1);
        x.book(0, 1, true);
        Check.due("27: none", x.looked(), -5);
        x.tale(7);
        Check.due("27: BOOK has no GAME", x.looked(), 1);
        x.book(1, 2, true);
        Check.due("27: none", x.looked(), -5);
        x.book(2, 0, true);
        Check.due("27: BOOK has more", x.looked(), -5);
        x.tale(9);
        Check.due("27: otherwise", x.looked(), 2);
        x.men(0, 9);
        Check.due("27: the first", x.looked(), 0);
        x.tale(-1);
        Check.due("27: no TALES", x.looked(), -5);
        x.tale(8);
        x.tale(8);
        x.tale(9);
        x.tale(9);
        Check.due("27: from now on", x.looked(), 3);
        Check.due("27: changes nothing", x.of(0, 2), 9);
    }
}
