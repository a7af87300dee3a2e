/** Promises 12 to 22: games to come, by hand; what more there is to count, OracleTest counts. */
public final class GamesToComeTest {
    private static final long NO = FewerMan.NO;

    private GamesToComeTest() {
    }

    public static void main(String[] args) {
        wins();
        mean();
        series();
        ends();
        even();
        purpose();
        order();
        orderMean();
        stakes();
        table();
        refusals();
        Check.end("GamesToComeTest");
    }

    /** Two of no KIND with 8 MEN each: of v 4 and 3, so ODDS are 6, and 5 with two MEN fewer. */
    private static FewerMan two() {
        FewerMan x = new FewerMan();
        x.player(0, 4);
        x.player(0, 3);
        return x;
    }

    private static void wins() {
        FewerMan x = two();
        Check.fraction("12: 0 of 0", x.wins(0, 1, 0, 0, 0), x.wins(0, 1, 0, 0, 1), 1, 1);
        Check.fraction("12: 1 of 1", x.wins(0, 1, 1, 1, 0), x.wins(0, 1, 1, 1, 1), 3, 5);
        Check.fraction("12: 0 of 1", x.wins(0, 1, 1, 0, 0), x.wins(0, 1, 1, 0, 1), 2, 5);
        // Won first: 7 and 9 MEN, ODDS 5; lost first: 9 and 7, ODDS 7.
        Check.fraction("12: 2 of 2", x.wins(0, 1, 2, 2, 0), x.wins(0, 1, 2, 2, 1), 3, 10);
        Check.fraction("12: 1 of 2", x.wins(0, 1, 2, 1, 0), x.wins(0, 1, 2, 1, 1), 29, 50);
        Check.fraction("12: 0 of 2", x.wins(0, 1, 2, 0, 0), x.wins(0, 1, 2, 0, 1), 3, 25);
        Check.fraction("12: of the other one", x.wins(1, 0, 2, 2, 0), x.wins(1, 0, 2, 2, 1), 3, 25);
        String before = Check.look(x);
        x.wins(0, 1, 12, 6, 0);
        Check.due("12: changes nothing", Check.look(x), before);
        Check.due("12: w above n", x.wins(0, 1, 2, 3, 0), NO);
        Check.due("12: w below 0", x.wins(0, 1, 2, -1, 0), NO);
        Check.due("12: n 13", x.wins(0, 1, 13, 1, 0), NO);
        Check.due("12: n -1", x.wins(0, 1, -1, -1, 0), NO);
        Check.due("12: part", x.wins(0, 1, 2, 1, 2), NO);
        x.player(0, 0);
        Check.inn(x, "lift 99 p=0;less 0;more 0");
        Check.fraction("12: 12 of 12", x.wins(0, 1, 12, 12, 0), x.wins(0, 1, 12, 12, 1), 282429536481L, 1000000000000L);
        Check.fraction("12: 0 of 12", x.wins(0, 1, 12, 0, 0), x.wins(0, 1, 12, 0, 1), 1, 1000000000000L);
    }

    private static void mean() {
        FewerMan x = two();
        Check.fraction("13: 0 GAMES", x.mean(0, 1, 0, 0), x.mean(0, 1, 0, 1), 8, 1);
        Check.fraction("13: 1 GAME", x.mean(0, 1, 1, 0), x.mean(0, 1, 1, 1), 39, 5);
        // 6 by 3/10, 8 by 29/50, 10 by 3/25.
        Check.fraction("13: 2 GAMES", x.mean(0, 1, 2, 0), x.mean(0, 1, 2, 1), 191, 25);
        Check.fraction("13: of the other one", x.mean(1, 0, 2, 0), x.mean(1, 0, 2, 1), 209, 25);
        x.men(0, 1);
        x.men(1, 20);
        Check.fraction("13: the bounds", x.mean(1, 0, 1, 0), x.mean(1, 0, 1, 1), 191, 10);
    }

    private static void series() {
        FewerMan x = two();
        Check.fraction("14: by 1", x.series(0, 1, 1, 0), x.series(0, 1, 1, 1), 3, 5);
        // Won, won; won, lost, won; lost, won, won: back at 8 and 8 MEN after one of each.
        Check.fraction("14: by 2", x.series(0, 1, 2, 0), x.series(0, 1, 2, 1), 81, 125);
        Check.fraction("14: of the other one", x.series(1, 0, 2, 0), x.series(1, 0, 2, 1), 44, 125);
    }

    private static void ends() {
        FewerMan x = two();
        Check.fraction("15: far from it", x.ends(0, 1, 6, 0), x.ends(0, 1, 6, 1), 0, 1);
        x.men(0, 1);
        Check.fraction("15: now", x.ends(0, 1, 0, 0), x.ends(0, 1, 0, 1), 1, 1);
        Check.fraction("15: now, and 5 GAMES", x.ends(0, 1, 5, 0), x.ends(0, 1, 5, 1), 1, 1);
        x.men(0, 2);
        x.men(1, 2);
        Check.fraction("15: not now", x.ends(0, 1, 0, 0), x.ends(0, 1, 0, 1), 0, 1);
        Check.fraction("15: 1 GAME", x.ends(0, 1, 1, 0), x.ends(0, 1, 1, 1), 3, 5);
        // Behind 3 also by lost, won, won: 4/10 7/10 6/10.
        Check.fraction("15: 2 GAMES", x.ends(0, 1, 2, 0), x.ends(0, 1, 2, 1), 3, 5);
        Check.fraction("15: 3 GAMES", x.ends(0, 1, 3, 0), x.ends(0, 1, 3, 1), 96, 125);
    }

    private static void even() {
        FewerMan x = two();
        // 5 + 1 + (m - 8) / 2 is 5 with m 6 or 5.
        Check.due("16: the least", x.even(0, 1), 5);
        Check.due("16: of the other one", x.even(1, 0), 10);
        Check.due("16: changes nothing", x.of(0, 2), 8);
        x.men(0, 20);
        Check.due("16: whatever MEN it has", x.even(0, 1), 5);
        x.men(1, 1);
        Check.due("16: none with fewer than 1", x.even(0, 1), 1);
        Check.refused("16: nobody", x, () -> x.even(0, 2), FewerMan.NONE);
        Check.refused("16: nobody", x, () -> x.even(2, 2), FewerMan.NONE);
        Check.refused("16: two are one", x, () -> x.even(1, 1), FewerMan.BAD);
        FewerMan y = new FewerMan();
        y.player(0, 0);
        y.player(0, 9);
        y.men(1, 20);
        // Never above 1 of ten: all alike, so the least.
        Check.due("16: all alike", y.even(0, 1), 1);
        FewerMan z = new FewerMan();
        z.player(2, 9);
        z.player(0, 0);
        // SLY with 1, 2, 3 MEN has ODDS 2, 2, 3 of ten, 9 with more; MEN of an INN count, too: 6 with 11.
        Check.due("16: a KIND by MEN", z.even(0, 1), 3);
        Check.inn(z, "duck 9 m=12|m=11");
        Check.due("16: an INN by MEN", z.even(0, 1), 11);
    }

    private static void purpose() {
        FewerMan x = two();
        Check.fraction("17: 1", x.purpose(0, 1, 1, 0), x.purpose(0, 1, 1, 1), 3, 5);
        // Lost first on purpose: 9 and 7 MEN, ODDS 7.
        Check.fraction("17: 2", x.purpose(0, 1, 2, 0), x.purpose(0, 1, 2, 1), 7, 10);
        Check.due("18: n 1", x.loses(0, 1, 1), 0);
        Check.due("18: n 2", x.loses(0, 1, 2), 1);
        Check.inn(x, "less 0;more 0");
        Check.fraction("17: no MEN come", x.purpose(0, 1, 5, 0), x.purpose(0, 1, 5, 1), 3, 5);
        Check.due("18: that does as well", x.loses(0, 1, 5), 0);
        Check.inn(x, "less 0;more 0;lift 2 p=0&g=1&m<9;lift 9 o>8&p=0");
        Check.due("18: better won", x.loses(0, 1, 3), 0);
        // Who has lost here is worse off, so the first is won with 6 of ten, lost else.
        Check.inn(x, "duck 3 p=0&m>8");
        Check.fraction("17: better won", x.purpose(0, 1, 2, 0), x.purpose(0, 1, 2, 1), 23, 50);
        Check.due("18: better won", x.loses(0, 1, 2), 0);
        Check.refused("18: n 0", x, () -> x.loses(0, 1, 0), FewerMan.BAD);
        Check.refused("18: n 9", x, () -> x.loses(0, 1, 9), FewerMan.BAD);
        Check.refused("18: one player", x, () -> x.loses(0, 0, 3), FewerMan.BAD);
        Check.refused("18: nobody", x, () -> x.loses(0, 2, 0), FewerMan.NONE);
        Check.refused("18: nobody", x, () -> x.loses(3, 3, 3), FewerMan.NONE);
    }

    private static FewerMan five() {
        FewerMan x = new FewerMan();
        for (int v = 0; v < 5; v++) {
            x.player(0, v);
        }
        return x;
    }

    private static void order() {
        FewerMan x = five();
        Check.due("19: of one", x.order(1, 8, 0), 3);
        Check.due("19: there are fewer", x.order(1, 8, 1), -5);
        Check.due("19: of none", x.order(1, 0, 0), -5);
        // ODDS of 2: 7 against 0, 4 against 3; by one MAN no more. All alike: the first as a row.
        Check.due("19: all alike", x.order(2, 9, 0), 0);
        Check.due("19: all alike", x.order(2, 9, 1), 3);
        // With an inn where who has lost is better off: the one that one loses with comes first.
        Check.inn(x, "lift 4 p=2&m=9&o=8;lift 1 p=3");
        Check.due("19: the best", x.order(2, 9, 0), 3);
        Check.due("19: the best", x.order(2, 9, 1), 0);
        Check.due("19: there are fewer", x.order(2, 9, 2), -5);
        Check.due("19: the last", x.order(4, 15, 3) >= 0 ? 1 : 0, 1);
        Check.refused("19: nobody", x, () -> x.order(5, 1, 0), FewerMan.NONE);
        Check.refused("19: nobody", x, () -> x.order(-1, 1, 0), FewerMan.NONE);
        Check.refused("19: k 4", x, () -> x.order(0, 2, 4), FewerMan.NONE);
        Check.refused("19: k -1", x, () -> x.order(0, 2, -1), FewerMan.NONE);
        Check.refused("19: NONE ahead of BAD", x, () -> x.order(0, 1, 4), FewerMan.NONE);
        Check.refused("19: that one is in it", x, () -> x.order(0, 1, 0), FewerMan.BAD);
        Check.refused("19: that one is in it", x, () -> x.order(4, 31, 0), FewerMan.BAD);
        Check.refused("19: not there", x, () -> x.order(0, 32, 0), FewerMan.BAD);
        Check.refused("19: not there", x, () -> x.order(0, -1, 0), FewerMan.BAD);
        Check.refused("19: not there", x, () -> x.order(0, Integer.MIN_VALUE, 0), FewerMan.BAD);
        FewerMan y = two();
        Check.refused("19: not there", y, () -> y.order(0, 4, 0), FewerMan.BAD);
        Check.due("19: there", y.order(0, 2, 0), 1);
    }

    private static void orderMean() {
        FewerMan x = five();
        Check.fraction("20: of none", x.orderMean(1, 0, 0), x.orderMean(1, 0, 1), 0, 1);
        Check.fraction("20: of one", x.orderMean(1, 8, 0), x.orderMean(1, 8, 1), 3, 10);
        Check.fraction("20: all alike", x.orderMean(2, 9, 0), x.orderMean(2, 9, 1), 11, 10);
        Check.inn(x, "lift 4 p=2&m=9&o=8;lift 1 p=3");
        // First against 3: 3 of ten; then 7 (won), bounded 9 (lost): 3/10 + 21/100 + 63/100.
        Check.fraction("20: the best", x.orderMean(2, 9, 0), x.orderMean(2, 9, 1), 57, 50);
        Check.due("20: nobody", x.orderMean(5, 1, 0), NO);
        Check.due("20: set", x.orderMean(0, 1, 0), NO);
        Check.due("20: set", x.orderMean(0, 32, 0), NO);
        Check.due("20: part", x.orderMean(0, 2, 2), NO);
        Check.due("20: part", x.orderMean(0, 2, -1), NO);
    }

    private static void stakes() {
        FewerMan x = two();
        Check.fraction("21: 0 GAMES", x.stakes(0, 1, 0, 0), x.stakes(0, 1, 0, 1), 0, 1);
        x.men(0, 9);
        // ODDS 6: it wins 8, or loses 9.
        Check.fraction("21: 1 GAME", x.stakes(0, 1, 1, 0), x.stakes(0, 1, 1, 1), 6, 5);
        Check.fraction("21: of the other one", x.stakes(1, 0, 1, 0), x.stakes(1, 0, 1, 1), -6, 5);
        // Then 8 and 9, ODDS 6: 9 or 8; or 10 and 7, ODDS 7: 7 or 10. So 6/5 + 6/10 11/5 + 4/10 19/10.
        Check.fraction("21: 2 GAMES", x.stakes(0, 1, 2, 0), x.stakes(0, 1, 2, 1), 82, 25);
    }

    private static void table() {
        FewerMan x = new FewerMan();
        Check.due("22: nobody", x.table(0, 1, 0), NO);
        x.player(0, 4);
        Check.due("22: fewer than 2", x.table(0, 1, 0), NO);
        x.player(0, 3);
        Check.fraction("22: two", x.table(0, 1, 0), x.table(0, 1, 1), 3, 5);
        // Of two the same one comes again: 6/10 5/10 + 4/10 7/10.
        Check.fraction("22: two, 2 GAMES", x.table(0, 2, 0), x.table(0, 2, 1), 29, 50);
        Check.fraction("22: two, 2 GAMES", x.table(1, 2, 0), x.table(1, 2, 1), 21, 50);
        x.player(0, 3);
        Check.fraction("22: who waits", x.table(2, 1, 0), x.table(2, 1, 1), 0, 1);
        // 0 stays with 7 MEN: 6; 1 stays with 7 MEN: 5.
        Check.fraction("22: three, 2 GAMES", x.table(0, 2, 0), x.table(0, 2, 1), 9, 25);
        Check.fraction("22: three, 2 GAMES", x.table(1, 2, 0), x.table(1, 2, 1), 1, 5);
        Check.fraction("22: three, 2 GAMES", x.table(2, 2, 0), x.table(2, 2, 1), 11, 25);
        x.player(0, 0);
        // 2 waits first, so 3 comes for the third GAME: ODDS of 0 with 6 MEN 8, of 1 with 6 MEN 7, of 2 with 7 MEN 8.
        Check.fraction("22: four, 3 GAMES", x.table(3, 3, 0), x.table(3, 3, 1), 11, 50);
        Check.fraction("22: four, 2 GAMES", x.table(3, 2, 0), x.table(3, 2, 1), 0, 1);
        String before = Check.look(x);
        x.table(0, 8, 0);
        Check.due("22: changes nothing", Check.look(x), before);
        Check.due("22: n 0", x.table(0, 0, 0), NO);
        Check.due("22: n 9", x.table(0, 9, 0), NO);
        Check.due("22: part", x.table(0, 1, 2), NO);
        Check.due("22: nobody", x.table(4, 1, 0), NO);
        Check.due("22: nobody", x.table(-1, 1, 0), NO);
    }

    private static void refusals() {
        FewerMan x = two();
        int[][] pairs = {{0, 0}, {0, 2}, {2, 0}, {-1, 0}, {0, -1}, {5, 6}};
        for (int[] pair : pairs) {
            String of = " of " + pair[0] + " and " + pair[1];
            Check.due("12: players" + of, x.wins(pair[0], pair[1], 1, 1, 0), NO);
            Check.due("13: players" + of, x.mean(pair[0], pair[1], 1, 0), NO);
            Check.due("14: players" + of, x.series(pair[0], pair[1], 1, 0), NO);
            Check.due("15: players" + of, x.ends(pair[0], pair[1], 1, 0), NO);
            Check.due("17: players" + of, x.purpose(pair[0], pair[1], 1, 0), NO);
            Check.due("21: players" + of, x.stakes(pair[0], pair[1], 1, 0), NO);
        }
        for (int part : new int[] {-1, 2, 7}) {
            Check.due("12: part", x.wins(0, 1, 1, 1, part), NO);
            Check.due("13: part", x.mean(0, 1, 1, part), NO);
            Check.due("14: part", x.series(0, 1, 1, part), NO);
            Check.due("15: part", x.ends(0, 1, 1, part), NO);
            Check.due("17: part", x.purpose(0, 1, 1, part), NO);
            Check.due("21: part", x.stakes(0, 1, 1, part), NO);
        }
        Check.due("13: n -1", x.mean(0, 1, -1, 0), NO);
        Check.due("13: n 13", x.mean(0, 1, 13, 0), NO);
        Check.due("13: n 12", x.mean(0, 1, 12, 0) == NO ? 1 : 0, 0);
        Check.due("14: k 0", x.series(0, 1, 0, 0), NO);
        Check.due("14: k 6", x.series(0, 1, 6, 0), NO);
        Check.due("14: k 5", x.series(0, 1, 5, 0) == NO ? 1 : 0, 0);
        Check.due("15: n -1", x.ends(0, 1, -1, 0), NO);
        Check.due("15: n 13", x.ends(0, 1, 13, 0), NO);
        Check.due("15: n 12", x.ends(0, 1, 12, 0) == NO ? 1 : 0, 0);
        Check.due("17: n 0", x.purpose(0, 1, 0, 0), NO);
        Check.due("17: n 9", x.purpose(0, 1, 9, 0), NO);
        Check.due("17: n 8", x.purpose(0, 1, 8, 0) == NO ? 1 : 0, 0);
        Check.due("21: n -1", x.stakes(0, 1, -1, 0), NO);
        Check.due("21: n 11", x.stakes(0, 1, 11, 0), NO);
        Check.due("21: n 10", x.stakes(0, 1, 10, 0) == NO ? 1 : 0, 0);
        Check.due("the constant NO", NO, Long.MIN_VALUE);
        Check.due("the constant NONE", FewerMan.NONE, -1);
        Check.due("the constant BAD", FewerMan.BAD, -2);
        Check.due("the constant STATE", FewerMan.STATE, -3);
        Check.due("the constant FULL", FewerMan.FULL, -4);
    }
}
