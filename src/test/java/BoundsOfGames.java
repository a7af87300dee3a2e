import java.math.BigInteger;
import java.util.function.IntToLongFunction;
import java.util.function.Supplier;
import java.util.function.ToLongFunction;

/** Sentence by sentence: what is asked of games to come (promises 12 to 22). */
final class BoundsOfGames {
    private static final long NO = FewerMan.NO;
    private static final int NONE = FewerMan.NONE, BAD = FewerMan.BAD;
    private static final int MIN = Integer.MIN_VALUE, MAX = Integer.MAX_VALUE;
    private static final int[] NOBODY = {MIN, MIN + 1, -32, -1, 2, 5, 31, 32, 33, MAX};
    private static final int[] NO_PART = {MIN, MIN + 1, -1, 2, 3, 65536, MAX};

    private BoundsOfGames() {
    }

    static void all() {
        changesNothing();
        wins();
        mean();
        series();
        ends();
        lowestTerms();
        even();
        purpose();
        loses();
        order();
        orderMean();
        stakes();
        table();
    }

    /** Two PLAYERS, v 4 and 3, with 8 MEN each: ODDS of 0 are 6. */
    private static FewerMan two() {
        FewerMan x = new FewerMan();
        x.player(0, 4);
        x.player(0, 3);
        return x;
    }

    private static FewerMan two(int men, int others) {
        FewerMan x = two();
        x.men(0, men);
        x.men(1, others);
        return x;
    }

    private static FewerMan five() {
        FewerMan x = new FewerMan();
        for (int v = 0; v < 5; v++) {
            x.player(0, v);
        }
        return x;
    }

    /** The parts of a fraction, by a call that takes the part. */
    private static void due(String what, IntToLongFunction call, long above, long below) {
        Check.fraction(what, call.applyAsLong(0), call.applyAsLong(1), above, below);
    }

    private static void refused(String what, Supplier<FewerMan> from, ToLongFunction<FewerMan> call, long want) {
        Check.refused(what, from, call, want);
    }

    /** A room with something of all: an INN, a tape, MEN, a ROW, BOOK, TALES, a trace and an image behind it. */
    private static FewerMan full() {
        FewerMan x = new FewerMan();
        int[] kinds = {6, 1, 5, 4, 2};
        for (int i = 0; i < 5; i++) {
            x.player(kinds[i], 3 + i % 3);
        }
        x.men(2, 5);
        x.row(0, 1, 7);
        Check.feed(x, "more 3");
        x.image();
        Check.inn(x, ";lift 3 p=1&g>3|m<7");
        Check.inn(x, "lift 2 p=0&g>3|m<7;more 2");
        Check.feed(x, "duck 4 !g=2");
        x.play(0, 3, true);
        x.men(1, 6);
        for (int i = 0; i < 5; i++) {
            x.book(i, (i + 2) % 5, i % 2 == 0);
        }
        x.tale(6);
        x.tale(8);
        x.act(3, 2, 5);
        return x;
    }

    private static void changesNothing() {
        Check.sentence("All that follows is asked, goes on from how all is (GAME beyond 9999, too), and changes "
            + "nothing.");
        unchanged("wins", x -> x.wins(0, 1, 12, 6, 0));
        unchanged("mean", x -> x.mean(2, 1, 12, 1));
        unchanged("series", x -> x.series(3, 1, 5, 0));
        unchanged("ends", x -> x.ends(2, 4, 12, 0));
        unchanged("even", x -> x.even(0, 4));
        unchanged("purpose", x -> x.purpose(0, 1, 8, 0));
        unchanged("loses", x -> x.loses(0, 1, 8));
        unchanged("order", x -> x.order(0, 30, 3));
        unchanged("orderMean", x -> x.orderMean(4, 15, 0));
        unchanged("stakes", x -> x.stakes(1, 2, 10, 0));
        unchanged("table", x -> x.table(0, 8, 0));
        unchanged("likely", x -> x.likely(2));
        unchanged("says", x -> x.says(3));
        unchanged("looked", x -> x.looked());
        unchanged("as", x -> x.as(3, 1));
        unchanged("odds", x -> x.odds(3, 1));
        unchanged("push", x -> x.push(3, 1));
        unchanged("trace", x -> x.trace(2));
        unchanged("count", x -> x.count(4));
        unchanged("of", x -> x.of(4, 2));
        unchanged("told", x -> x.told(1));
        goesOnFromNow();
        whoeverTheyAre();
    }

    private static void unchanged(String what, ToLongFunction<FewerMan> call) {
        FewerMan x = full();
        long first = call.applyAsLong(x);
        Check.due(what + " is taken", first == NO || first == NONE || first == BAD ? 1 : 0, 0);
        Check.due(what + " once more", call.applyAsLong(x), first);
        Check.due(what + " changes nothing", Check.lookThrough(x), Check.lookThrough(full()));
    }

    private static void goesOnFromNow() {
        FewerMan x = two();
        Check.inn(x, "less 0;more 0;lift 1 g=0;lift 2 p=0&g=1;duck 3 p=0&g=2");
        due("from GAME 0 on: 6, 8, 3 of ten", part -> x.wins(0, 1, 3, 3, part), 18, 125);
        x.play(0, 1, false);
        due("from GAME 1 on: 8, 3, 6 of ten", part -> x.wins(0, 1, 2, 2, part), 6, 25);
        x.play(0, 1, false);
        due("from GAME 2 on: 3, 6, 6 of ten", part -> x.wins(0, 1, 2, 2, part), 9, 50);
    }

    /** One room is asked of all its players in turn; two alone in a room of their own have the same answers. */
    private static void whoeverTheyAre() {
        FewerMan x = new FewerMan();
        int[] men = {2, 20, 5, 1, 9};
        for (int i = 0; i < 5; i++) {
            x.player(i == 4 ? 2 : i, 9 - 2 * i);
            x.men(i, men[i]);
        }
        for (int one = 0; one < 5; one++) {
            for (int other = 0; other < 5; other++) {
                if (one != other) {
                    FewerMan y = new FewerMan();
                    y.player(x.of(one, 0), x.of(one, 1));
                    y.player(x.of(other, 0), x.of(other, 1));
                    y.men(0, men[one]);
                    y.men(1, men[other]);
                    Check.due(one + " and " + other, answers(x, one, other), answers(y, 0, 1));
                }
            }
        }
    }

    private static String answers(FewerMan x, int one, int other) {
        StringBuilder all = new StringBuilder();
        for (int part = 0; part < 2; part++) {
            all.append(x.wins(one, other, 5, 2, part)).append(' ').append(x.mean(one, other, 6, part)).append(' ');
            all.append(x.series(one, other, 3, part)).append(' ').append(x.ends(one, other, 7, part)).append(' ');
            all.append(x.purpose(one, other, 5, part)).append(' ').append(x.stakes(one, other, 6, part)).append(' ');
            all.append(x.orderMean(one, 1 << other, part)).append(' ');
        }
        all.append(x.even(one, other)).append(' ').append(x.loses(one, other, 5)).append(' ');
        return all.append(x.push(one, other)).append(' ').append(x.odds(one, other)).toString();
    }

    private static void wins() {
        Check.sentence("WINS of two for n GAMES (0 .. 12) with one another: how likely the one told first wins w of "
            + "them;");
        FewerMan x = two();
        due("0 of 0", part -> x.wins(0, 1, 0, 0, part), 1, 1);
        due("1 of 1", part -> x.wins(0, 1, 1, 1, part), 3, 5);
        due("0 of 1", part -> x.wins(0, 1, 1, 0, part), 2, 5);
        due("1 of 1, of the other one", part -> x.wins(1, 0, 1, 1, part), 2, 5);
        for (int n = 0; n <= 12; n++) {
            long sum = 0;
            long tenToN = BigInteger.TEN.pow(n).longValueExact();
            for (int w = 0; w <= n; w++) {
                long above = x.wins(0, 1, n, w, 0);
                long below = x.wins(0, 1, n, w, 1);
                sum += above * (tenToN / below);
                Check.due("who does not win loses", x.wins(1, 0, n, n - w, 0), above);
                Check.due("who does not win loses", x.wins(1, 0, n, n - w, 1), below);
            }
            Check.due("all w of " + n, sum, tenToN);
        }
        FewerMan y = two();
        Check.inn(y, "less 0;more 0;lift 9 p=0");
        due("12 of 12", part -> y.wins(0, 1, 12, 12, part), 282429536481L, 1000000000000L);
        due("11 of 12", part -> y.wins(0, 1, 12, 11, part), 94143178827L, 250000000000L);
        due("0 of 12", part -> y.wins(0, 1, 12, 0, part), 1, 1000000000000L);
        Check.sentence("WINS. NO: players, n, w (0 .. n), part.");
        for (int n : new int[] {MIN, MIN + 1, -1, 13, 14, 65536, MAX}) {
            refused("n " + n, BoundsOfGames::two, z -> z.wins(0, 1, n, 0, 0), NO);
            refused("n and w " + n, BoundsOfGames::two, z -> z.wins(0, 1, n, n, 0), NO);
        }
        for (int n = 0; n <= 12; n++) {
            for (int w : new int[] {MIN, -1, n + 1, n + 2, 13, MAX}) {
                int games = n;
                refused("n " + n + ", w " + w, BoundsOfGames::two, z -> z.wins(0, 1, games, w, 0), NO);
            }
        }
        pairsAndParts((z, one, other, part) -> z.wins(one, other, 3, 1, part));
    }

    private interface Asked {
        long ask(FewerMan x, int one, int other, int part);
    }

    /** Whom there is not, two that are one, and parts that there are not. */
    private static void pairsAndParts(Asked call) {
        for (int nobody : NOBODY) {
            refused("one " + nobody, BoundsOfGames::two, x -> call.ask(x, nobody, 0, 0), NO);
            refused("other " + nobody, BoundsOfGames::two, x -> call.ask(x, 0, nobody, 1), NO);
            refused("both " + nobody, BoundsOfGames::two, x -> call.ask(x, nobody, nobody, 0), NO);
        }
        refused("two are one", BoundsOfGames::two, x -> call.ask(x, 0, 0, 0), NO);
        refused("two are one", BoundsOfGames::two, x -> call.ask(x, 1, 1, 1), NO);
        for (int part : NO_PART) {
            refused("part " + part, BoundsOfGames::two, x -> call.ask(x, 0, 1, part), NO);
        }
        for (int one = 0; one < 2; one++) {
            for (int part = 0; part < 2; part++) {
                Check.due("taken: " + one + ", part " + part, call.ask(two(), one, 1 - one, part) == NO ? 1 : 0, 0);
            }
        }
    }

    private static void mean() {
        Check.sentence("MEAN: the mean of MEN that it has then.");
        FewerMan x = two();
        due("of 0 GAMES", part -> x.mean(0, 1, 0, part), 8, 1);
        due("of 1 GAME: 7 or 9", part -> x.mean(0, 1, 1, part), 39, 5);
        due("of 1 GAME, of the other one", part -> x.mean(1, 0, 1, part), 41, 5);
        for (int n = 0; n <= 12; n++) {
            int games = n;
            FewerMan y = two(1, 20);
            Check.inn(y, "less 20;more 0");
            due("1 at least, " + n, part -> y.mean(0, 1, games, part), 1, 1);
            FewerMan z = two(20, 1);
            Check.inn(z, "less 0;more 20");
            due("20 at most, " + n, part -> z.mean(0, 1, games, part), 20, 1);
            FewerMan u = two();
            Check.inn(u, "less 0;more 0");
            due("none come and go, " + n, part -> u.mean(0, 1, games, part), 8, 1);
        }
        FewerMan v = two(1, 20);
        Check.inn(v, "less 0;more 1;lift 20 p=0");
        // 1 of ten by each GAME: 1 and n tenths.
        due("of 12 GAMES", part -> v.mean(0, 1, 12, part), 11, 5);
        Check.sentence("MEAN. NO: players, n, part.");
        for (int n : new int[] {MIN, MIN + 1, -1, 13, 14, 65536, MAX}) {
            refused("n " + n, BoundsOfGames::two, z -> z.mean(0, 1, n, 0), NO);
        }
        pairsAndParts((z, one, other, part) -> z.mean(one, other, 12, part));
        pairsAndParts((z, one, other, part) -> z.mean(one, other, 0, part));
    }

    private static void series() {
        Check.sentence("SERIES of two by k (1 .. 5): how likely the one told first is the first to have won k GAMES.");
        FewerMan x = two();
        due("by 1", part -> x.series(0, 1, 1, part), 3, 5);
        due("by 1, of the other one", part -> x.series(1, 0, 1, part), 2, 5);
        due("by 2", part -> x.series(0, 1, 2, part), 81, 125);
        for (int k = 1; k <= 5; k++) {
            int by = k;
            long below = BigInteger.TEN.pow(2 * k - 1).longValueExact();
            long sum = x.series(0, 1, k, 0) * (below / x.series(0, 1, k, 1))
                + x.series(1, 0, k, 0) * (below / x.series(1, 0, k, 1));
            Check.due("one of two is the first, by " + k, sum, below);
            FewerMan y = new FewerMan();
            y.player(0, 4);
            y.player(0, 4);
            due("all alike, by " + k, part -> y.series(0, 1, by, part), 1, 2);
        }
        FewerMan y = two();
        Check.inn(y, "less 0;more 0;lift 9 p=0");
        // By 5 with 9 of ten: .9^5 (1 + 5 .1 + 15 .01 + 35 .001 + 70 .0001).
        due("by 5", part -> y.series(0, 1, 5, part), 24977727, 25000000);
        due("by 5, of the other one", part -> y.series(1, 0, 5, part), 22273, 25000000);
        Check.sentence("SERIES. NO: players, k, part.");
        for (int k : new int[] {MIN, MIN + 1, -1, 0, 6, 7, 65537, 1 << 30, MAX}) {
            refused("k " + k, BoundsOfGames::two, z -> z.series(0, 1, k, 0), NO);
        }
        pairsAndParts((z, one, other, part) -> z.series(one, other, 1, part));
        pairsAndParts((z, one, other, part) -> z.series(one, other, 5, part));
    }

    private static void ends() {
        Check.sentence("ENDS of two for n GAMES (0 .. 12): how likely the one told first has 1 of MEN behind some of "
            + "them (or has now).");
        for (int n = 0; n <= 12; n++) {
            int games = n;
            due("has now, and " + n, part -> two(1, 8).ends(0, 1, games, part), 1, 1);
            due("20 MEN and " + n, part -> two(20, 1).ends(0, 1, games, part), 0, 1);
            FewerMan x = two(14, 8);
            due("13 fewer come by no 12, " + n, part -> x.ends(0, 1, games, part), 0, 1);
        }
        due("2 MEN and none", part -> two(2, 2).ends(0, 1, 0, part), 0, 1);
        due("2 MEN and 1", part -> two(2, 2).ends(0, 1, 1, part), 3, 5);
        // Won; or lost, won, won: 4/10 7/10 6/10. Who had 1 and has more then had it.
        due("2 MEN and 3", part -> two(2, 2).ends(0, 1, 3, part), 96, 125);
        FewerMan x = two(13, 8);
        Check.inn(x, "more 0;lift 40 p=0");
        due("12 fewer by 12", part -> x.ends(0, 1, 12, part), 282429536481L, 1000000000000L);
        due("12 fewer by 11", part -> x.ends(0, 1, 11, part), 0, 1);
        FewerMan y = two(20, 20);
        Check.inn(y, "less 99;more 0;lift 40 p=0");
        due("all at once", part -> y.ends(0, 1, 1, part), 9, 10);
        due("all at once, some of 12", part -> y.ends(0, 1, 12, part), 999999999999L, 1000000000000L);
        FewerMan z = two(2, 8);
        Check.inn(z, "less 0;more 0");
        due("never", part -> z.ends(0, 1, 12, part), 0, 1);
        Check.sentence("ENDS. NO: players, n, part.");
        for (int n : new int[] {MIN, MIN + 1, -1, 13, 14, 65536, MAX}) {
            refused("n " + n, BoundsOfGames::two, u -> u.ends(0, 1, n, 0), NO);
            refused("n " + n + " with 1 of MEN", () -> two(1, 8), u -> u.ends(0, 1, n, 0), NO);
        }
        pairsAndParts((u, one, other, part) -> u.ends(one, other, 0, part));
        pairsAndParts((u, one, other, part) -> u.ends(one, other, 12, part));
    }

    private static void lowestTerms() {
        Check.sentence("(Fractions in lowest terms.)");
        FewerMan x = full();
        for (int n = 0; n <= 12; n++) {
            int games = n;
            for (int w = 0; w <= n; w++) {
                int won = w;
                lowest("wins", part -> x.wins(0, 1, games, won, part));
            }
            lowest("mean", part -> x.mean(0, 1, games, part));
            lowest("ends", part -> x.ends(2, 1, games, part));
            if (n > 0 && n < 6) {
                lowest("series", part -> x.series(0, 1, games, part));
            }
            if (n > 0 && n < 9) {
                lowest("purpose", part -> x.purpose(0, 1, games, part));
                lowest("table", part -> x.table(games % 5, games, part));
            }
            if (n < 11) {
                lowest("stakes", part -> x.stakes(0, 2, games, part));
                lowest("stakes", part -> x.stakes(2, 0, games, part));
            }
        }
        for (int set = 0; set < 16; set++) {
            int others = set;
            lowest("orderMean", part -> x.orderMean(4, others, part));
        }
        FewerMan y = two(1, 8);
        Check.inn(y, "less 0;more 0");
        due("nothing", part -> y.stakes(0, 1, 0, part), 0, 1);
        due("nothing", part -> y.orderMean(0, 0, part), 0, 1);
        due("never", part -> y.ends(1, 0, 12, part), 0, 1);
        due("a whole number", part -> y.mean(1, 0, 12, part), 8, 1);
    }

    private static void lowest(String what, IntToLongFunction call) {
        BigInteger above = BigInteger.valueOf(call.applyAsLong(0));
        BigInteger below = BigInteger.valueOf(call.applyAsLong(1));
        Check.due(what + ": below the line", below.signum(), 1);
        Check.due(what + " " + above + "/" + below, above.gcd(below).longValue(), 1);
    }

    private static void even() {
        Check.sentence("EVEN of two: the MEN (1 .. 20) that the one told first could have, the other one's being as "
            + "they are, by which ODDS that it wins are nearest to 5 (of several the least).");
        FewerMan x = two();
        Check.due("5 or 6", x.even(0, 1), 5);
        Check.due("10 or 11", x.even(1, 0), 10);
        for (int men : new int[] {1, 5, 20}) {
            x.men(0, men);
            Check.due("whatever it has, " + men, x.even(0, 1), 5);
        }
        // Alike: ODDS are 5 by one MAN more or less, and as many.
        for (int others = 1; others <= 20; others++) {
            FewerMan y = new FewerMan();
            y.player(0, 4);
            y.player(0, 4);
            y.men(1, others);
            Check.due("alike, of " + others, y.even(0, 1), Math.max(1, others - 1));
        }
        FewerMan y = new FewerMan();
        y.player(0, 0);
        y.player(0, 9);
        Check.due("20: ODDS 2, all else 1", y.even(0, 1), 20);
        y.men(1, 10);
        Check.due("all have ODDS 1", y.even(0, 1), 1);
        y.men(0, 1);
        Check.due("1: all have ODDS 9", y.even(1, 0), 1);
        y.men(0, 20);
        Check.due("1 and 2: ODDS 5", y.even(1, 0), 1);
        FewerMan z = new FewerMan();
        z.player(0, 4);
        z.player(0, 4);
        // With 7, 8, 9 MEN ODDS are 1, so 4 (5 and 6 MEN) and 6 (10 and 11) are alike near.
        Check.inn(z, "duck 9 p=0&m>6&m<10");
        Check.due("4 ahead of 6", z.even(0, 1), 5);
        Check.inn(z, "duck 9 p=0&m>6&m<10;lift 4 p=0&m=2");
        Check.due("6 ahead of 4", z.even(0, 1), 2);
        Check.inn(z, "duck 9 p=0&m<20;duck 6 p=0&m=20");
        Check.due("the last", z.even(0, 1), 20);
        Check.sentence("EVEN. NONE; BAD.");
        for (int nobody : NOBODY) {
            refused("one " + nobody, BoundsOfGames::two, u -> u.even(nobody, 0), NONE);
            refused("other " + nobody, BoundsOfGames::two, u -> u.even(0, nobody), NONE);
            refused("NONE ahead of BAD " + nobody, BoundsOfGames::two, u -> u.even(nobody, nobody), NONE);
        }
        refused("two are one", BoundsOfGames::two, u -> u.even(0, 0), BAD);
        refused("two are one", BoundsOfGames::two, u -> u.even(1, 1), BAD);
    }

    /** Two alike with 8 MEN each: who has lost k times has ODDS 5 and k, 9 at most. */
    private static FewerMan alike() {
        FewerMan x = new FewerMan();
        x.player(0, 4);
        x.player(0, 4);
        return x;
    }

    private static void purpose() {
        Check.sentence("PURPOSE of two for n GAMES (1 .. 8): the one told first wants to win the n-th of them, and "
            + "may lose any one ahead of that on purpose: how likely it is at best that it wins the n-th;");
        long[][] want = {{1, 2}, {3, 5}, {7, 10}, {4, 5}, {9, 10}, {9, 10}, {9, 10}, {9, 10}};
        for (int n = 1; n <= 8; n++) {
            int games = n;
            due("n " + n, part -> alike().purpose(0, 1, games, part), want[n - 1][0], want[n - 1][1]);
        }
        FewerMan x = alike();
        Check.inn(x, "less 0;more 1;duck 1 p=0&m>8");
        // Who loses is worse off: 1 lost has ODDS 4, 2 lost 5 again; none lost 5. Of two games it is best to play.
        due("better not lost", part -> x.purpose(0, 1, 2, part), 9, 20);
        FewerMan y = alike();
        Check.inn(y, "less 0;more 1;lift 3 p=0&g=2&m=9");
        // The third is best with one lost: ODDS 8, with none 4, with both 6. So the first is played: if it is won,
        // the second is lost on purpose (8), if it is lost, the second is played (8 or 6).
        due("the second as the first went", part -> y.purpose(0, 1, 3, part), 3, 4);
        Check.sentence("PURPOSE: how likely. NO: players, n, part.");
        for (int n : new int[] {MIN, MIN + 1, -1, 0, 9, 10, 65537, MAX}) {
            refused("n " + n, BoundsOfGames::two, u -> u.purpose(0, 1, n, 0), NO);
        }
        pairsAndParts((u, one, other, part) -> u.purpose(one, other, 1, part));
        pairsAndParts((u, one, other, part) -> u.purpose(one, other, 8, part));
    }

    private static void loses() {
        Check.sentence("whether it then loses the first on purpose (1; 0: not, also if that does as well, or n is "
            + "1).");
        // With 7 and 8 GAMES there is still time to lose four, or more, if the first is won.
        int[] want = {0, 1, 1, 1, 1, 1, 0, 0};
        for (int n = 1; n <= 8; n++) {
            Check.due("n " + n, alike().loses(0, 1, n), want[n - 1]);
        }
        FewerMan x = alike();
        Check.inn(x, "less 0;more 0");
        for (int n = 1; n <= 8; n++) {
            Check.due("that does as well, n " + n, x.loses(0, 1, n), 0);
        }
        FewerMan y = alike();
        Check.inn(y, "less 0;more 1;duck 1 p=0&m>8");
        Check.due("better not", y.loses(0, 1, 2), 0);
        Check.inn(y, "less 0;more 1;lift 3 p=0&g=2&m=9");
        Check.due("only the second, if the first is won", y.loses(0, 1, 3), 0);
        Check.inn(y, "less 0;more 1;lift 3 p=0&g=2&m=10");
        Check.due("both", y.loses(0, 1, 3), 1);
        Check.sentence("PURPOSE: whether the first is lost so. NONE: players; BAD: one player, n.");
        for (int n : new int[] {MIN, MIN + 1, -1, 0, 9, 10, 65537, MAX}) {
            refused("n " + n, BoundsOfGames::two, z -> z.loses(0, 1, n), BAD);
            refused("one player, n " + n, BoundsOfGames::two, z -> z.loses(1, 1, n), BAD);
            refused("NONE ahead of BAD, n " + n, BoundsOfGames::two, z -> z.loses(0, 2, n), NONE);
            refused("NONE ahead of BAD, n " + n, BoundsOfGames::two, z -> z.loses(-1, -1, n), NONE);
        }
        for (int nobody : NOBODY) {
            refused("one " + nobody, BoundsOfGames::two, z -> z.loses(nobody, 0, 3), NONE);
            refused("other " + nobody, BoundsOfGames::two, z -> z.loses(0, nobody, 3), NONE);
            refused("NONE ahead of BAD " + nobody, BoundsOfGames::two, z -> z.loses(nobody, nobody, 3), NONE);
        }
        refused("one player", BoundsOfGames::two, z -> z.loses(0, 0, 1), BAD);
        refused("one player", BoundsOfGames::two, z -> z.loses(1, 1, 8), BAD);
    }

    /** Five of strength 4; player k has 21 - k MEN, but player 0 has 8, and an INN holds. */
    private static FewerMan rows(String inn) {
        FewerMan x = new FewerMan();
        for (int i = 0; i < 5; i++) {
            x.player(0, 4);
            x.men(i, i == 0 ? 8 : 21 - i);
        }
        Check.inn(x, inn);
        return x;
    }

    private static void rowIs(String what, FewerMan x, int player, int set, int... row) {
        for (int k = 0; k < 4; k++) {
            Check.due(what + ", k " + k, x.order(player, set, k), k < row.length ? row[k] : -5);
        }
    }

    private static void order() {
        Check.sentence("ROW of a player and a set of others (4 at most): of all orders in which it could play them, "
            + "one GAME each, that by which the mean of GAMES that it wins is most; of several the first as a row; "
            + "that mean.");
        FewerMan alike = new FewerMan();
        for (int i = 0; i < 5; i++) {
            alike.player(0, 4);
        }
        rowIs("none", alike, 2, 0);
        for (int i = 0; i < 5; i++) {
            rowIs("one", alike, (i + 1) % 5, 1 << i, i);
        }
        rowIs("all alike", alike, 0, 30, 1, 2, 3, 4);
        rowIs("all alike", alike, 1, 29, 0, 2, 3, 4);
        rowIs("all alike", alike, 2, 27, 0, 1, 3, 4);
        rowIs("all alike", alike, 3, 23, 0, 1, 2, 4);
        rowIs("all alike", alike, 4, 15, 0, 1, 2, 3);
        rowIs("two alike", alike, 0, 24, 3, 4);
        rowIs("three alike", alike, 2, 19, 0, 1, 4);
        rowIs("the last row of all", rows("lift 19 p=0&g=0&o=17;lift 19 p=0&g=1&o=18;lift 19 p=0&g=2&o=19"), 0, 30,
            4, 3, 2, 1);
        rowIs("the first row of all", rows("lift 19 p=0&g=0&o=20;lift 19 p=0&g=1&o=19;lift 19 p=0&g=2&o=18"), 0, 30,
            1, 2, 3, 4);
        rowIs("one first, the others alike", rows("lift 19 p=0&g=0&o=18;duck 30 p=0&!o=18"), 0, 14, 3, 1, 2);
        rowIs("one second, the others alike", rows("lift 19 p=0&g=1&o=18;duck 30 p=0&!o=18"), 0, 14, 1, 3, 2);
        rowIs("one last, the others alike", rows("lift 19 p=0&g=2&o=20;duck 30 p=0&!o=20"), 0, 14, 2, 3, 1);
        FewerMan x = rows("lift 19 p=0&g=1&o=18;duck 30 p=0&!o=18");
        x.play(1, 2, true);
        rowIs("from this GAME on", x, 0, 14, 3, 1, 2);
        Check.sentence("ROW of a set (bits): the k-th of the order (-5: there are fewer). NONE: player, k (0 .. 3); "
            + "BAD: set (that one is in it, one that is not there, more than 4).");
        for (int player = 0; player < 5; player++) {
            int one = player;
            for (int set : new int[] {31, 32, 63, 1 << player, 1 << 30, MAX, MIN, -1, -2, ~31, MIN + 2, 65536}) {
                refused("set " + set + " of " + player, BoundsOfGames::five, z -> z.order(one, set, 0), BAD);
                refused("NONE ahead of BAD", BoundsOfGames::five, z -> z.order(one, set, 4), NONE);
                refused("NONE ahead of BAD", BoundsOfGames::five, z -> z.order(one, set, -1), NONE);
                refused("NONE ahead of BAD", BoundsOfGames::five, z -> z.order(5, set, 0), NONE);
                refused("set " + set + " of " + player, BoundsOfGames::five, z -> z.orderMean(one, set, 0), NO);
            }
        }
        for (int set : new int[] {1, 3, 4, 6, 8, 16, -1, MIN}) {
            refused("set " + set + " of two", BoundsOfGames::two, z -> z.order(0, set, 0), BAD);
        }
        for (int k : new int[] {MIN, -1, 4, 5, MAX}) {
            refused("k " + k, BoundsOfGames::five, z -> z.order(0, 30, k), NONE);
            refused("k " + k + " of none", BoundsOfGames::five, z -> z.order(0, 0, k), NONE);
        }
        for (int nobody : NOBODY) {
            refused("player " + nobody, BoundsOfGames::two, z -> z.order(nobody, 0, 0), NONE);
            refused("player " + nobody, BoundsOfGames::two, z -> z.order(nobody, 1, 0), NONE);
        }
        refused("k ahead of there are fewer", BoundsOfGames::five, z -> z.order(0, 2, 4), NONE);
        Check.due("there are fewer", five().order(0, 2, 3), -5);
    }

    private static void orderMean() {
        Check.sentence("ROW: the mean. NO: player, set, part.");
        due("of none", part -> five().orderMean(0, 0, part), 0, 1);
        due("of one", part -> five().orderMean(4, 1, part), 9, 10);
        due("of one", part -> five().orderMean(4, 8, part), 3, 5);
        due("of four", part -> rows("lift 19 p=0&g=0&o=17;lift 19 p=0&g=1&o=18;lift 19 p=0&g=2&o=19;"
            + "lift 19 p=0&g=3&o=20").orderMean(0, 30, part), 18, 5);
        due("of four, 1 of ten each", part -> rows("duck 40 p=0").orderMean(0, 30, part), 2, 5);
        FewerMan x = seats(5);
        for (int men : new int[] {20, 8, 1, 20, 1, 19, 2}) {
            for (int i = 0; i < 5; i++) {
                x.men(i, men);
            }
            due("four alike with MEN " + men, part -> x.orderMean(2, 27, part), 2, 1);
            due("three alike with MEN " + men, part -> x.orderMean(1, 28, part), 3, 2);
        }
        // Lost at 20 MEN it has 20 then, won at 1 it has 1: ODDS are 5 again.
        FewerMan most = alike();
        most.player(0, 4);
        for (int i = 0; i < 3; i++) {
            most.men(i, 20);
        }
        due("20 at most", part -> most.orderMean(0, 6, part), 1, 1);
        for (int i = 0; i < 3; i++) {
            most.men(i, 1);
        }
        Check.inn(most, "more 0;less 9");
        due("1 at least", part -> most.orderMean(0, 6, part), 1, 1);
        orderMeanRefused();
    }

    private static void orderMeanRefused() {
        for (int nobody : NOBODY) {
            refused("player " + nobody, BoundsOfGames::two, x -> x.orderMean(nobody, 0, 0), NO);
            refused("player " + nobody, BoundsOfGames::two, x -> x.orderMean(nobody, 1, 1), NO);
        }
        for (int set : new int[] {1, 3, 4, 6, 8, 16, 32, -1, MIN, MAX}) {
            refused("set " + set, BoundsOfGames::two, x -> x.orderMean(0, set, 0), NO);
        }
        for (int part : NO_PART) {
            refused("part " + part, BoundsOfGames::two, x -> x.orderMean(0, 2, part), NO);
            refused("part " + part + " of none", BoundsOfGames::two, x -> x.orderMean(0, 0, part), NO);
        }
    }

    private static void stakes() {
        Check.sentence("STAKES of two for n GAMES (0 .. 10): the mean of what the one told first has then: at each "
            + "GAME who loses pays who wins as many as MEN that who loses had ahead of it (below 0: it has paid "
            + "more).");
        due("none", part -> two(20, 1).stakes(0, 1, 0, part), 0, 1);
        due("1: 8 or 9", part -> two(9, 8).stakes(0, 1, 1, part), 6, 5);
        due("1: 9 or 8, below 0", part -> two(9, 8).stakes(1, 0, 1, part), -6, 5);
        due("1: 1 of 9 of ten, 20 of one", part -> two(20, 1).stakes(0, 1, 1, part), -11, 10);
        due("the other one", part -> two(20, 1).stakes(1, 0, 1, part), 11, 10);
        due("2", part -> two(9, 8).stakes(0, 1, 2, part), 82, 25);
        for (int n = 0; n <= 10; n++) {
            int games = n;
            FewerMan x = new FewerMan();
            x.player(0, 9);
            x.player(0, 0);
            x.men(0, 20);
            x.men(1, 20);
            Check.inn(x, "less 0;more 0");
            due("20 MEN each, 9 of ten, n " + n, part -> x.stakes(0, 1, games, part), 16 * n, 1);
            due("20 MEN each, 1 of ten, n " + n, part -> x.stakes(1, 0, games, part), -16 * n, 1);
        }
        Check.sentence("STAKES. NO: players, n (0 .. 10), part.");
        for (int n : new int[] {MIN, MIN + 1, -1, 11, 12, 65536, MAX}) {
            refused("n " + n, BoundsOfGames::two, z -> z.stakes(0, 1, n, 0), NO);
        }
        pairsAndParts((z, one, other, part) -> z.stakes(one, other, 0, part));
        pairsAndParts((z, one, other, part) -> z.stakes(one, other, 10, part));
    }

    /** So many alike, whose ODDS are 5 at all times. */
    private static FewerMan seats(int players) {
        FewerMan x = new FewerMan();
        for (int i = 0; i < players; i++) {
            x.player(0, 4);
        }
        Check.inn(x, "less 0;more 0");
        return x;
    }

    private static void table() {
        Check.sentence("TABLE for n GAMES (1 .. 8): players 0 and 1 begin (2 players at least); behind each GAME who "
            + "has lost gives the seat to the one who has waited longest (at first all others wait, by numbers; who "
            + "loses waits behind them): how likely a player wins the n-th GAME.");
        for (int n = 1; n <= 8; n++) {
            int games = n;
            due("of two alike, n " + n, part -> seats(2).table(0, games, part), 1, 2);
            due("of two alike, n " + n, part -> seats(2).table(1, games, part), 1, 2);
            for (int players = 2; players <= 5; players++) {
                long sum = 0;
                FewerMan x = seats(players);
                for (int i = 0; i < players; i++) {
                    sum += x.table(i, n, 0) * (256 / x.table(i, n, 1));
                }
                Check.due("one of " + players + " wins, n " + n, sum, 256);
            }
        }
        // Above 256: player, then n from 1 on. Who waits comes in turn; who loses comes again behind all others.
        seat(3, 0, 128, 64, 96);
        seat(3, 1, 128, 64, 96);
        seat(3, 2, 0, 128, 64, 96);
        seat(4, 3, 0, 0, 128, 64, 32, 80);
        seat(5, 1, 128, 64, 32, 16, 72, 68);
        seat(5, 2, 0, 128, 64, 32, 16, 72);
        seat(5, 3, 0, 0, 128, 64, 32, 16, 72);
        seat(5, 4, 0, 0, 0, 128, 64, 32, 16, 72);
        FewerMan y = alike();
        Check.inn(y, "less 0;more 0;lift 1 p=0&g=1;lift 2 p=0&g=2;lift 3 p=0&g=3;lift 4 p=0&g>3");
        int[] odds = {5, 6, 7, 8, 9, 9, 9, 9};
        for (int n = 1; n <= 8; n++) {
            Check.due("by GAME, n " + n, y.table(0, n, 0) * 10, odds[n - 1] * y.table(0, n, 1));
            Check.due("by GAME, n " + n, y.table(1, n, 0) * 10, (10 - odds[n - 1]) * y.table(1, n, 1));
        }
        twoAlone();
        due("by ODDS", part -> two().table(0, 1, part), 3, 5);
        due("by MEN as they go", part -> two().table(0, 2, part), 29, 50);
        Check.sentence("TABLE. NO: player, n (1 .. 8), part, fewer than 2 players.");
        for (int n : new int[] {MIN, MIN + 1, -1, 0, 9, 10, 65537, MAX}) {
            refused("n " + n, BoundsOfGames::two, x -> x.table(0, n, 0), NO);
        }
        for (int part : NO_PART) {
            refused("part " + part, BoundsOfGames::two, x -> x.table(0, 1, part), NO);
        }
        for (int nobody : NOBODY) {
            refused("player " + nobody, BoundsOfGames::two, x -> x.table(nobody, 1, 0), NO);
        }
        for (int part = 0; part < 2; part++) {
            int of = part;
            refused("nobody", FewerMan::new, x -> x.table(0, 1, of), NO);
            refused("one alone", () -> seats(1), x -> x.table(0, 1, of), NO);
            refused("one alone", () -> seats(1), x -> x.table(0, 8, of), NO);
            refused("one alone", () -> seats(1), x -> x.table(1, 1, of), NO);
        }
    }

    /** Of two alone: what is won in the mean of n GAMES, less what of one fewer. */
    private static void twoAlone() {
        FewerMan x = two(3, 6);
        for (int n = 1; n <= 8; n++) {
            long won = 0;
            for (int w = 0; w <= n; w++) {
                won += w * x.wins(0, 1, n, w, 0) * (100000000 / x.wins(0, 1, n, w, 1));
                if (w < n) {
                    won -= w * x.wins(0, 1, n - 1, w, 0) * (100000000 / x.wins(0, 1, n - 1, w, 1));
                }
            }
            Check.due("two alone, n " + n, x.table(0, n, 0) * (100000000 / x.table(0, n, 1)), won);
        }
    }

    private static void seat(int players, int player, int... above) {
        for (int i = 0; i < above.length; i++) {
            FewerMan x = seats(players);
            int n = i + 1;
            Check.due(player + " of " + players + ", n " + n,
                x.table(player, n, 0) * (256 / x.table(player, n, 1)), above[i]);
        }
    }
}
