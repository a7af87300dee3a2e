/** Promises 1 to 11: inns, players, PUSH, ODDS, a GAME. */
public final class InnsAndPlayersTest {
    private InnsAndPlayersTest() {
    }

    public static void main(String[] args) {
        aNewObject();
        feed();
        inn();
        faults();
        howManyClausesAndOpen();
        whatHolds();
        player();
        of();
        men();
        row();
        told();
        pushOfKinds();
        pushByInn();
        pushRefused();
        odds();
        play();
        Check.end("InnsAndPlayersTest");
    }

    private static void aNewObject() {
        FewerMan x = new FewerMan();
        for (int what = 0; what <= 5; what++) {
            Check.due("1: count of a new object", x.count(what), 0);
        }
        Check.due("1: GAME of a new object", x.told(0), 0);
        Check.due("1: less of a new object", x.told(1), 1);
        Check.due("1: more of a new object", x.told(2), 1);
        Check.due("1: nobody", x.of(0, 0), FewerMan.NONE);
        Check.due("1: no image", x.undo(), FewerMan.STATE);
        Check.due("1: no trace", x.trace(0), FewerMan.NONE);
    }

    private static void feed() {
        FewerMan x = new FewerMan();
        Check.refused("2: feed(-1)", x, () -> x.feed(-1), FewerMan.BAD);
        Check.refused("2: feed(128)", x, () -> x.feed(128), FewerMan.BAD);
        Check.due("2: feed(0)", x.feed(0), 1);
        Check.due("2: feed(127)", x.feed(127), 2);
        for (int i = 3; i <= 100; i++) {
            Check.due("2: feed", x.feed('l'), i);
        }
        Check.refused("2: the 101st sign", x, () -> x.feed('l'), FewerMan.FULL);
        Check.refused("2: BAD ahead of FULL", x, () -> x.feed(200), FewerMan.BAD);
        Check.due("2: the tape", x.inn(), -10);
    }

    private static void inn() {
        FewerMan x = new FewerMan();
        Check.due("3: the first inn", Check.inn(x, "less 2"), 0);
        Check.due("3: the tape is empty then", x.count(4), 0);
        Check.due("3: less", x.told(1), 2);
        Check.due("3: a fault", Check.inn(x, "less 3;"), -17);
        Check.due("3: the tape is empty by a fault, too", x.count(4), 0);
        Check.due("3: the one that held holds", x.told(1), 2);
        Check.due("3: the second", Check.inn(x, "more 0"), 1);
        Check.due("3: the newest one holds: less", x.told(1), 1);
        Check.due("3: the newest one holds: more", x.told(2), 0);
        Check.due("3: the last n of less", Check.inn(x, "less 4;more 7;less 0;more 99"), 2);
        Check.due("3: less", x.told(1), 0);
        Check.due("3: more", x.told(2), 99);
        Check.due("3: the fourth", Check.inn(x, "duck 0 g=0"), 3);
        Check.due("3: the fifth", Check.inn(x, "less 10"), 4);
        Check.feed(x, "less 5");
        Check.refused("3: FULL", x, x::inn, FewerMan.FULL);
        Check.due("3: the tape stays", x.count(4), 6);
        Check.feed(x, "?");
        Check.refused("3: FULL ahead of a fault", x, x::inn, FewerMan.FULL);
        Check.due("3: the tape stays", x.count(4), 7);
        Check.due("3: the fifth holds", x.told(1), 10);
        Check.due("3: five", x.count(1), 5);
    }

    private static void faults() {
        fault("", 0);
        fault("x", 0);
        fault(" less 1", 0);
        fault(";", 0);
        fault("L", 0);
        fault("l", 1);
        fault("lo", 1);
        fault("lif", 3);
        fault("lify", 3);
        fault("less", 4);
        fault("less1", 4);
        fault("less ", 5);
        fault("less  1", 5);
        fault("less -1", 5);
        fault("less 01", 6);
        fault("less 00", 6);
        fault("less 100", 7);
        fault("less 1 ", 6);
        fault("less 1p=0", 6);
        fault("less 1;", 7);
        fault("less 1;;", 7);
        fault("less 1; less 1", 7);
        fault("mor", 3);
        fault("mora 1", 3);
        fault("more", 4);
        fault("more x", 5);
        fault("du", 2);
        fault("dusk 1 p=1", 2);
        fault("duck 1", 6);
        fault("duck 1;", 6);
        fault("duck 1 ", 7);
        fault("duck 1  p=1", 7);
        fault("duck 1 z=1", 7);
        fault("duck 1 p", 8);
        fault("duck 1 p1", 8);
        fault("duck 1 p!1", 8);
        fault("duck 1 p=", 9);
        fault("duck 1 p=x", 9);
        fault("duck 1 p==1", 9);
        fault("duck 1 p=100", 11);
        fault("duck 1 p=01", 10);
        fault("duck 1 p=1&", 11);
        fault("duck 1 p=1&&", 11);
        fault("duck 1 p=1|", 11);
        fault("duck 1 p=1||", 11);
        fault("duck 1 p=1)", 10);
        fault("duck 1 (p=1", 11);
        fault("duck 1 (p=1;", 11);
        fault("duck 1 ()", 8);
        fault("duck 1 !", 8);
        fault("duck 1 !)", 8);
        fault("duck 1 p=1!", 10);
        fault("duck 1 p=1 ", 10);
        fault("duck 1 p=1 &k=1", 10);
        fault("lift 1 p=1;duck 1 p=1;moro 1", 25);
    }

    private static void fault(String text, int place) {
        FewerMan x = new FewerMan();
        Check.due("3: \"" + text + "\"", Check.inn(x, text), -10 - place);
        Check.due("3: no inn by \"" + text + "\"", x.count(1), 0);
        Check.due("3: the tape behind \"" + text + "\"", x.count(4), 0);
    }

    private static void howManyClausesAndOpen() {
        good("less 1;less 1;less 1;less 1;less 1;less 1;less 1;less 1;less 1;more 1");
        fault("less 1;less 1;less 1;less 1;less 1;less 1;less 1;less 1;less 1;more 1;", 69);
        fault("less 1;less 1;less 1;less 1;less 1;less 1;less 1;less 1;less 1;more 1;less 1", 69);
        good("duck 1 !!!!!m=1");
        fault("duck 1 !!!!!!m=1", 12);
        good("duck 1 (((((m=1)))))");
        fault("duck 1 ((((((m=1))))))", 12);
        good("duck 1 !(!(!m=1))");
        fault("duck 1 !(!(!(m=1)))", 12);
        good("duck 1 !!!!!m=1&!!!!!m=1|(((((m=1)))))&!(!(!k<3&!k>4))");
        good("duck 1 (((((m=1)|(k=1))&!p=1)))&!!!!!p=2");
        good("duck 1 (((((m=1)|(k=1))&!!p=1)))");
        fault("duck 1 (((((m=1)|(k=1))&!!!p=1)))", 26);
        fault("duck 1 !!!!!(m=1)", 12);
    }

    private static void good(String text) {
        FewerMan x = new FewerMan();
        Check.due("3: \"" + text + "\"", Check.inn(x, text), 0);
    }

    /** A test holds or not for player 1, a MASTER with v 0 and 8 MEN, against player 0 with 5 MEN, at GAME 0. */
    private static void whatHolds() {
        holds("p=1", true);
        holds("p=0", false);
        holds("p<1", false);
        holds("p<2", true);
        holds("p>0", true);
        holds("p>1", false);
        holds("k=1", true);
        holds("k>0", true);
        holds("k<1", false);
        holds("m=8", true);
        holds("m<8", false);
        holds("m<9", true);
        holds("m>7", true);
        holds("m<99", true);
        holds("m>10", false);
        holds("o=5", true);
        holds("o=8", false);
        holds("o>4", true);
        holds("g=0", true);
        holds("g>0", false);
        holds("!g>0", true);
        holds("!!g>0", false);
        holds("p=0|k=1", true);
        holds("p=1|k=0", true);
        holds("p=0|k=0", false);
        holds("p=1&k=1", true);
        holds("p=1&k=0", false);
        holds("p=0&k=1", false);
        holds("p=1|k=0&m=0", true);
        holds("p=0&k=0|m=8", true);
        holds("p=1|k=1&m=0", true);
        holds("(p=1|k=1)&m=0", false);
        holds("!p=1|k=1", true);
        holds("!(p=1|k=1)", false);
        holds("!p=0&!k=0&!m=0&!o=0&g=0", true);
        holds("!p=1&p=0|p=0", false);
        holds("p=0|p=0|p=0|p=1", true);
        holds("p=1&p=1&p=1&p=0", false);
        holds("p=0|(p=1&(k=0|(m=8&(o=0|(o=5)))))", true);
        holds("p=1&(p=0|(k=1&(m=0|(o=5&(g=1)))))", false);
        holds("p=1&(p=0|!(k=1&(m=0|!o=5)))", true);
    }

    private static void holds(String test, boolean want) {
        FewerMan x = new FewerMan();
        x.player(0, 0);
        x.player(1, 0);
        x.men(0, 5);
        Check.due("3: lift by " + test, Check.inn(x, "lift 50 " + test), 0);
        Check.due("9: lift by " + test, x.push(1, 0), want ? 50 : 0);
        Check.due("3: duck by " + test, Check.inn(x, "duck 40 " + test), 1);
        Check.due("9: duck by " + test, x.push(1, 0), want ? -40 : 0);
    }

    private static void player() {
        FewerMan x = new FewerMan();
        Check.refused("4: kind -1", x, () -> x.player(-1, 3), FewerMan.NONE);
        Check.refused("4: kind 7", x, () -> x.player(7, 3), FewerMan.NONE);
        Check.refused("4: v -1", x, () -> x.player(0, -1), FewerMan.BAD);
        Check.refused("4: v 10", x, () -> x.player(6, 10), FewerMan.BAD);
        Check.refused("4: NONE ahead of BAD", x, () -> x.player(7, 10), FewerMan.NONE);
        for (int i = 0; i < 5; i++) {
            Check.due("4: player", x.player(6 - i, 9 - i), i);
            Check.due("4: kind", x.of(i, 0), 6 - i);
            Check.due("4: v", x.of(i, 1), 9 - i);
            Check.due("4: men at first", x.of(i, 2), 8);
        }
        Check.refused("4: FULL", x, () -> x.player(0, 0), FewerMan.FULL);
        Check.refused("4: BAD ahead of FULL", x, () -> x.player(0, 10), FewerMan.BAD);
        Check.refused("4: NONE ahead of FULL", x, () -> x.player(-3, 0), FewerMan.NONE);
    }

    private static void of() {
        FewerMan x = new FewerMan();
        Check.refused("5: nobody", x, () -> x.of(0, 0), FewerMan.NONE);
        x.player(5, 7);
        x.men(0, 13);
        Check.due("5: KIND", x.of(0, 0), 5);
        Check.due("5: v", x.of(0, 1), 7);
        Check.due("5: MEN", x.of(0, 2), 13);
        Check.refused("5: what 3", x, () -> x.of(0, 3), FewerMan.NONE);
        Check.refused("5: what -1", x, () -> x.of(0, -1), FewerMan.NONE);
        Check.refused("5: player 1", x, () -> x.of(1, 0), FewerMan.NONE);
        Check.refused("5: player -1", x, () -> x.of(-1, 0), FewerMan.NONE);
    }

    private static void men() {
        FewerMan x = new FewerMan();
        x.player(0, 1);
        Check.due("6: were", x.men(0, 20), 8);
        Check.due("6: were", x.men(0, 1), 20);
        Check.due("6: are", x.of(0, 2), 1);
        Check.refused("6: 0", x, () -> x.men(0, 0), FewerMan.BAD);
        Check.refused("6: 21", x, () -> x.men(0, 21), FewerMan.BAD);
        Check.refused("6: nobody", x, () -> x.men(1, 5), FewerMan.NONE);
        Check.refused("6: NONE ahead of BAD", x, () -> x.men(-1, 21), FewerMan.NONE);
    }

    private static void row() {
        FewerMan x = new FewerMan();
        x.player(6, 1);
        x.player(3, 1);
        x.player(6, 1);
        for (int k = 0; k < 4; k++) {
            Check.due("7: at first", x.row(0, k, 9 - k), 4);
        }
        for (int k = 0; k < 4; k++) {
            Check.due("7: was", x.row(0, k, 0), 9 - k);
            Check.due("7: of another one", x.row(2, k, 4), 4);
        }
        Check.refused("7: n -1", x, () -> x.row(0, 0, -1), FewerMan.BAD);
        Check.refused("7: n 10", x, () -> x.row(0, 0, 10), FewerMan.BAD);
        Check.refused("7: k 4", x, () -> x.row(0, 4, 1), FewerMan.NONE);
        Check.refused("7: k -1", x, () -> x.row(0, -1, 1), FewerMan.NONE);
        Check.refused("7: nobody", x, () -> x.row(3, 0, 1), FewerMan.NONE);
        Check.refused("7: another KIND", x, () -> x.row(1, 0, 1), FewerMan.STATE);
        Check.refused("7: BAD ahead of STATE", x, () -> x.row(1, 0, 10), FewerMan.BAD);
        Check.refused("7: NONE ahead of all", x, () -> x.row(1, 4, 10), FewerMan.NONE);
    }

    private static void told() {
        FewerMan x = new FewerMan();
        x.player(0, 1);
        x.player(0, 1);
        Check.due("8: GAME", x.told(0), 0);
        x.play(0, 1, true);
        x.play(0, 1, true);
        Check.due("8: GAME", x.told(0), 2);
        Check.inn(x, "more 12;less 5");
        Check.due("8: less", x.told(1), 5);
        Check.due("8: more", x.told(2), 12);
        Check.refused("8: what 3", x, () -> x.told(3), FewerMan.NONE);
        Check.refused("8: what -1", x, () -> x.told(-1), FewerMan.NONE);
    }

    private static void pushOfKinds() {
        // v, MEN, MEN of the other one, GAME, PUSH
        push(0, 3, 8, 9, 0, 3);
        push(0, 3, 1, 20, 0, 3);
        push(1, 3, 8, 8, 0, 3);
        push(1, 3, 8, 9, 0, 5);
        push(1, 3, 9, 8, 0, 3);
        push(2, 3, 4, 8, 0, 3);
        push(2, 3, 3, 1, 0, -6);
        push(3, 3, 8, 8, 0, 2);
        push(3, 3, 8, 8, 2, 2);
        push(3, 3, 8, 8, 3, 3);
        push(4, 3, 8, 8, 0, 4);
        push(4, 3, 7, 8, 0, 6);
        push(4, 3, 8, 7, 9, 4);
        push(5, 3, 3, 8, 0, -6);
        push(5, 3, 4, 8, 0, 3);
        push(5, 3, 3, 8, 4, -6);
        push(5, 3, 3, 8, 5, 3);
        push(5, 0, 3, 8, 1, -9);
        push(5, 0, 3, 8, 2, 0);
        push(6, 3, 8, 8, 0, 2 + 9 - 4);
        push(6, 3, 8, 8, 1, 2 + 0 - 4);
        push(6, 3, 8, 8, 2, 2 + 5 - 4);
        push(6, 3, 8, 8, 3, 3 + 1 - 4);
        push(6, 3, 8, 8, 4, 3 + 9 - 4);
        push(6, 3, 8, 8, 7, 3 + 1 - 4);
    }

    private static void push(int kind, int v, int men, int others, int game, int want) {
        FewerMan x = new FewerMan();
        x.player(kind, v);
        x.player(0, 0);
        for (int k = 0; k < 4; k++) {
            x.row(0, k, new int[] {9, 0, 5, 1}[k]);
        }
        for (int i = 0; i < game; i++) {
            x.play(0, 1, true);
        }
        x.men(0, men);
        x.men(1, others);
        Check.due("9: PUSH of KIND " + kind + ", v " + v + ", MEN " + men + " and " + others + ", GAME " + game,
            x.push(0, 1), want);
    }

    private static void pushByInn() {
        FewerMan x = new FewerMan();
        x.player(4, 2);
        x.player(3, 9);
        x.men(0, 7);
        Check.inn(x, "lift 1 m<8;lift 2 o=8;duck 4 k=4;lift 8 p=1;duck 16 m=8&p=1;lift 32 g=0");
        Check.due("9: all together", x.push(0, 1), 2 + 3 + 1 + 2 - 4 + 32);
        Check.due("9: of the other one", x.push(1, 0), 9 - 1 + 8 - 16 + 32);
        Check.inn(x, "lift 5 g=0;lift 9 g=9");
        for (int game = 0; game <= 20; game++) {
            x.men(1, 7);
            x.men(0, 7);
            int lift = game % 10 == 0 ? 5 : game % 10 == 9 ? 9 : 0;
            Check.due("9: g at GAME " + game, x.push(0, 1), 3 + lift);
            x.play(0, 1, true);
        }
    }

    private static void pushRefused() {
        FewerMan x = new FewerMan();
        x.player(0, 0);
        x.player(0, 0);
        Check.refused("9: nobody", x, () -> x.push(2, 0), -10001);
        Check.refused("9: nobody", x, () -> x.push(0, 2), -10001);
        Check.refused("9: nobody", x, () -> x.push(-1, -1), -10001);
        Check.refused("9: two are one", x, () -> x.push(1, 1), -10002);
        Check.refused("10: nobody", x, () -> x.odds(2, 0), FewerMan.NONE);
        Check.refused("10: nobody", x, () -> x.odds(0, -1), FewerMan.NONE);
        Check.refused("10: nobody", x, () -> x.odds(5, 5), FewerMan.NONE);
        Check.refused("10: two are one", x, () -> x.odds(0, 0), FewerMan.BAD);
    }

    private static void odds() {
        odds(3, 3, 8, 8, 5);
        odds(4, 3, 8, 8, 6);
        odds(3, 4, 8, 8, 4);
        odds(3, 3, 9, 8, 5);
        odds(3, 3, 8, 9, 5);
        odds(3, 3, 10, 8, 6);
        odds(3, 3, 8, 10, 4);
        odds(3, 3, 8, 11, 4);
        odds(3, 3, 11, 8, 6);
        odds(7, 3, 8, 8, 9);
        odds(3, 7, 8, 8, 1);
        odds(9, 0, 20, 1, 9);
        odds(0, 9, 1, 20, 1);
        odds(9, 0, 1, 20, 5);
        odds(8, 0, 1, 20, 4);
        odds(6, 3, 8, 8, 8);
        odds(3, 6, 8, 8, 2);
    }

    private static void odds(int v, int vOther, int men, int menOther, int want) {
        FewerMan x = new FewerMan();
        x.player(0, v);
        x.player(0, vOther);
        x.men(0, men);
        x.men(1, menOther);
        String what = "10: ODDS of v " + v + " and " + vOther + ", MEN " + men + " and " + menOther;
        Check.due(what, x.odds(0, 1), want);
        Check.due(what + ", of the other one", x.odds(1, 0), 10 - want);
    }

    private static void play() {
        FewerMan x = new FewerMan();
        x.player(0, 0);
        x.player(1, 5);
        Check.due("11: won", x.play(0, 1, true), 7);
        Check.due("11: the other one", x.of(1, 2), 9);
        Check.due("11: lost", x.play(0, 1, false), 8);
        Check.due("11: the other one", x.of(1, 2), 8);
        Check.due("11: GAME", x.told(0), 2);
        Check.refused("11: nobody", x, () -> x.play(0, 2, true), FewerMan.NONE);
        Check.refused("11: nobody", x, () -> x.play(-1, 0, true), FewerMan.NONE);
        Check.refused("11: nobody", x, () -> x.play(2, 2, true), FewerMan.NONE);
        Check.refused("11: two are one", x, () -> x.play(0, 0, false), FewerMan.BAD);
        x.men(0, 1);
        x.men(1, 20);
        Check.due("11: 1 at least", x.play(0, 1, true), 1);
        Check.due("11: 20 at most", x.of(1, 2), 20);
        Check.inn(x, "less 3;more 6");
        x.men(0, 3);
        x.men(1, 14);
        Check.due("11: 1 at least", x.play(0, 1, true), 1);
        Check.due("11: more", x.of(1, 2), 20);
        Check.due("11: less and more", x.play(1, 0, true), 17);
        Check.due("11: less and more", x.of(0, 2), 7);
        Check.inn(x, "less 0;more 0");
        Check.due("11: none go", x.play(1, 0, true), 17);
        Check.due("11: none come", x.of(0, 2), 7);
        Check.due("11: GAME", x.told(0), 6);
        // Far beyond the calls that the document tells of: the last GAME.
        for (int game = 6; game < 9999; game++) {
            x.play(0, 1, true);
        }
        Check.due("11: GAME", x.told(0), 9999);
        Check.refused("11: GAME is 9999", x, () -> x.play(0, 1, true), FewerMan.STATE);
        Check.refused("11: BAD ahead of STATE", x, () -> x.play(0, 0, true), FewerMan.BAD);
        Check.refused("11: NONE ahead of STATE", x, () -> x.play(0, 3, true), FewerMan.NONE);
        Check.inn(x, "lift 5 p=0&g=9;lift 8 p=0&g=0");
        x.men(0, 8);
        x.men(1, 8);
        // Asked, GAMES go on beyond 9999: first g is 9, then 0.
        Check.fraction("12: GAMES beyond 9999", x.wins(0, 1, 2, 2, 0), x.wins(0, 1, 2, 2, 1), 7, 20);
        Check.fraction("13: GAMES beyond 9999", x.mean(0, 1, 2, 0), x.mean(0, 1, 2, 1), 38, 5);
    }
}
