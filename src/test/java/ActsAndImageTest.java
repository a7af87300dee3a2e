/** Promises 28 to 33: ACTS, THE TRACE, KINDS, THE IMAGE, how many. */
public final class ActsAndImageTest {
    private ActsAndImageTest() {
    }

    public static void main(String[] args) {
        act();
        wrapping();
        refusedActs();
        trace();
        as();
        image();
        count();
        Check.end("ActsAndImageTest");
    }

    /** Ahead of a player of that KIND stand three others, so i is 3. */
    private static FewerMan third(int kind, int v) {
        FewerMan x = new FewerMan();
        x.player(0, 0);
        x.player(0, 0);
        x.player(0, 0);
        x.player(kind, v);
        return x;
    }

    private static void act(int kind, int act, int x, int want, int... bodies) {
        FewerMan y = third(kind, 5);
        String what = "28: act " + act + " of KIND " + kind;
        Check.due(what, y.act(3, act, x), want);
        Check.due("33: bodies of " + what, y.count(5), bodies.length);
        for (int i = 0; i < bodies.length; i++) {
            Check.due("29: body " + i + " of " + what, y.trace(i), bodies[i]);
        }
        Check.due("29: no more of " + what, y.trace(bodies.length), FewerMan.NONE);
    }

    private static void act() {
        act(0, 0, 10, 13, 1);
        act(0, 1, 10, 8, 2, 1);
        act(0, 2, 10, 16, 3, 2, 1);
        act(1, 0, 10, 33, 11, 1);
        act(1, 1, 10, 28, 2, 11, 1);
        act(1, 2, 10, 56, 3, 2, 11, 1);
        act(2, 0, 10, 13, 1);
        act(2, 1, 10, -8, 21, 2, 1);
        act(2, 2, 10, -16, 3, 21, 2, 1);
        act(3, 0, 10, 13, 1);
        act(3, 1, 10, 8, 2, 1);
        act(3, 2, 10, 16 ^ 7, 31, 3, 2, 1);
        act(4, 0, 10, 33, 11, 1);
        act(4, 1, 10, 28, 2, 11, 1);
        act(4, 2, 10, (9 * 3 + 3 - 5) * 2 + 9, 41, 3, 2, 11, 1, 11, 1);
        act(5, 0, 10, 13 ^ 3, 51, 1);
        act(5, 1, 10, -((13 ^ 3) - 5), 21, 2, 51, 1);
        act(5, 2, 10, -((13 ^ 3) - 5) * 2, 3, 21, 2, 51, 1);
        act(6, 0, 10, 13, 1);
        act(6, 1, 10, 13, 61, 2, 1);
        act(6, 2, 10, 26 ^ 7, 31, 3, 61, 2, 1);
    }

    private static void wrapping() {
        FewerMan x = third(1, 5);
        Check.due("28: wraps", x.act(3, 0, Integer.MAX_VALUE), Integer.MAX_VALUE * 3 + 3);
        Check.due("28: wraps", x.act(0, 1, Integer.MIN_VALUE), Integer.MIN_VALUE);
        Check.due("28: wraps", x.act(3, 2, Integer.MIN_VALUE), (Integer.MIN_VALUE + 3 - 5) * 2);
        Check.due("28: wraps", third(2, 3).act(3, 1, Integer.MIN_VALUE), Integer.MIN_VALUE);
        Check.due("28: wraps", third(4, 0).act(3, 2, Integer.MIN_VALUE), ((Integer.MAX_VALUE) * 3 + 3) * 2 + 9);
    }

    private static void refusedActs() {
        int[][] calls = {{4, 0}, {-1, 0}, {0, 3}, {0, -1}, {9, 9}};
        for (int[] call : calls) {
            FewerMan x = third(4, 5);
            x.act(3, 2, 1);
            Check.due("28: no such", x.act(call[0], call[1], 7), 0);
            Check.due("28: no TRACE then", x.count(5), 0);
            Check.due("28: no TRACE then", x.trace(0), FewerMan.NONE);
            Check.due("28: nothing else", x.of(3, 2), 8);
        }
    }

    private static void trace() {
        FewerMan x = third(5, 5);
        Check.refused("29: none yet", x, () -> x.trace(0), FewerMan.NONE);
        x.act(3, 2, 1);
        Check.due("29: first", x.trace(0), 3);
        x.act(3, 0, 1);
        Check.due("29: the latest act", x.trace(0), 51);
        Check.due("29: the latest act", x.trace(1), 1);
        Check.refused("29: no more", x, () -> x.trace(2), FewerMan.NONE);
        Check.refused("29: -1", x, () -> x.trace(-1), FewerMan.NONE);
        Check.refused("29: 20", x, () -> x.trace(20), FewerMan.NONE);
    }

    private static void as() {
        int[] under = {0b1111111, 0b0010010, 0b0100100, 0b1001000, 0b0010000, 0b0100000, 0b1000000};
        for (int kind = 0; kind <= 6; kind++) {
            FewerMan x = third(kind, 7);
            for (int k = 0; k <= 6; k++) {
                boolean is = (under[k] >> kind & 1) == 1;
                Check.due("30: KIND " + kind + " taken for " + k, x.as(3, k), is ? 7 : -6);
            }
        }
        FewerMan x = third(6, 7);
        Check.refused("30: k 7", x, () -> x.as(3, 7), FewerMan.NONE);
        Check.refused("30: k -1", x, () -> x.as(3, -1), FewerMan.NONE);
        Check.refused("30: nobody", x, () -> x.as(4, 0), FewerMan.NONE);
        Check.refused("30: nobody", x, () -> x.as(-1, 0), FewerMan.NONE);
    }

    private static void image() {
        FewerMan x = new FewerMan();
        Check.refused("32: there is none", x, x::undo, FewerMan.STATE);
        Check.due("31: of nobody", x.image(), 0);
        x.player(6, 3);
        x.player(2, 4);
        Check.due("32: to nobody", x.undo(), 0);
        Check.due("32: nobody", x.count(0), 0);
        x.player(6, 3);
        x.player(2, 4);
        x.player(5, 4);
        Check.inn(x, "less 3;more 2;lift 2 p=0");
        Check.feed(x, "more 1");
        x.row(0, 1, 7);
        x.play(0, 1, true);
        x.book(0, 1, true);
        x.book(2, 1, true);
        x.tale(5);
        x.act(0, 2, 5);
        String before = Check.look(x);
        Check.due("31: PLAYERS", x.image(), 3);
        x.inn();
        Check.inn(x, "duck 9 p=0");
        Check.feed(x, "less 5 and more signs");
        x.player(0, 9);
        x.men(1, 3);
        x.row(0, 1, 0);
        x.row(0, 2, 9);
        x.play(3, 0, true);
        x.book(-1, 0, true);
        x.book(3, 1, true);
        x.tale(-1);
        x.tale(9);
        x.tale(9);
        Check.due("32: PLAYERS", x.undo(), 3);
        Check.due("32: all is as it was", Check.look(x), before);
        Check.due("32: the tape, too", x.inn(), 1);
        Check.due("32: the tape, too", x.told(2), 1);
        Check.due("32: the tape, too", x.told(1), 1);
        Check.due("32: again", x.undo(), 3);
        Check.due("32: again", Check.look(x), before);
        x.act(2, 0, 1);
        x.undo();
        Check.due("32: not THE TRACE", x.count(5), 2);
        Check.due("32: not THE TRACE", x.trace(0), 51);
        x.men(0, 20);
        Check.due("31: a newer one", x.image(), 3);
        x.men(0, 1);
        x.undo();
        Check.due("32: the newer one", x.of(0, 2), 20);
    }

    private static void count() {
        FewerMan x = new FewerMan();
        x.player(0, 1);
        x.player(4, 1);
        x.player(0, 1);
        Check.inn(x, "less 1");
        for (int i = 0; i < 4; i++) {
            x.book(0, 1, true);
        }
        for (int i = 0; i < 5; i++) {
            x.tale(3);
        }
        Check.feed(x, "signss");
        x.act(1, 2, 3);
        int[] want = {3, 1, 4, 5, 6, 7};
        for (int what = 0; what < want.length; what++) {
            Check.due("33: count " + what, x.count(what), want[what]);
        }
        Check.refused("33: what 6", x, () -> x.count(6), FewerMan.NONE);
        Check.refused("33: what -1", x, () -> x.count(-1), FewerMan.NONE);
    }
}
