import java.util.Random;

/** All promises: long runs of calls, FewerMan's answers held against those of Oracle. */
public final class OracleTest {
    private static final int RUNS = 120, CALLS = 512;

    private final Random random;
    private FewerMan x = new FewerMan();
    private Oracle y = new Oracle();
    private final String name;

    private OracleTest(int seed) {
        random = new Random(seed);
        name = "run " + seed;
    }

    public static void main(String[] args) {
        for (int seed = 0; seed < RUNS; seed++) {
            new OracleTest(seed).run();
        }
        texts();
        Check.end("OracleTest");
    }

    private void run() {
        int first = random.nextInt(6);
        for (int i = 0; i < first; i++) {
            player();
        }
        for (int i = first; i < CALLS; i++) {
            call(i);
        }
    }

    private void due(String call, long got, long want) {
        Check.due(name + ": " + call, got, want);
    }

    /** Mostly from least to most, now and then outside. */
    private int number(int least, int most) {
        int dice = random.nextInt(60);
        if (dice == 0) {
            return least - 1;
        }
        if (dice == 1) {
            return most + 1;
        }
        if (dice == 2) {
            return random.nextInt();
        }
        return least + random.nextInt(most - least + 1);
    }

    private int somebody() {
        int there = Math.max(1, y.count(0));
        return number(0, there - 1);
    }

    /** Mostly another one. */
    private int somebodyElse(int one) {
        int other = somebody();
        return other == one && random.nextInt(10) > 0 ? one == 0 ? Math.max(1, y.count(0) - 1) : 0 : other;
    }

    private void player() {
        int kind = number(0, 6);
        int v = number(0, 9);
        due("player(" + kind + ", " + v + ")", x.player(kind, v), y.player(kind, v));
    }

    private void call(int at) {
        int one = somebody();
        int other = somebodyElse(one);
        int part = number(0, 1);
        boolean won = random.nextBoolean();
        String two = one + ", " + other;
        switch (random.nextInt(38)) {
            case 0: player(); break;
            case 1: case 2: inn(); break;
            case 3: {
                int n = number(1, 20);
                due("men(" + one + ", " + n + ")", x.men(one, n), y.men(one, n));
                break;
            }
            case 4: {
                int k = number(0, 3);
                int n = number(0, 9);
                due("row(" + one + ", " + k + ", " + n + ")", x.row(one, k, n), y.row(one, k, n));
                break;
            }
            case 5: {
                int what = number(0, 2);
                due("told(" + what + ")", x.told(what), y.told(what));
                due("of(" + one + ", " + what + ")", x.of(one, what), y.of(one, what));
                break;
            }
            case 6: case 7: due("push(" + two + ")", x.push(one, other), y.push(one, other)); break;
            case 8: case 9: due("odds(" + two + ")", x.odds(one, other), y.odds(one, other)); break;
            case 10: case 11: case 12:
                due("play(" + two + ")", x.play(one, other, won), y.play(one, other, won));
                break;
            case 13: case 14: {
                int n = number(0, random.nextInt(8) == 0 ? 12 : 5);
                int w = number(0, Math.max(0, Math.min(12, n)));
                String call = "wins(" + two + ", " + n + ", " + w + ", " + part + ")";
                due(call, x.wins(one, other, n, w, part), y.wins(one, other, n, w, part));
                break;
            }
            case 15: case 16: {
                int n = number(0, random.nextInt(8) == 0 ? 12 : 5);
                due("mean(" + two + ", " + n + ", " + part + ")", x.mean(one, other, n, part),
                    y.mean(one, other, n, part));
                break;
            }
            case 17: case 18: {
                int k = number(1, random.nextInt(4) == 0 ? 5 : 3);
                due("series(" + two + ", " + k + ", " + part + ")", x.series(one, other, k, part),
                    y.series(one, other, k, part));
                break;
            }
            case 19: {
                int n = number(0, random.nextInt(8) == 0 ? 12 : 5);
                due("ends(" + two + ", " + n + ", " + part + ")", x.ends(one, other, n, part),
                    y.ends(one, other, n, part));
                break;
            }
            case 20: due("even(" + two + ")", x.even(one, other), y.even(one, other)); break;
            case 21: {
                int n = number(1, random.nextInt(8) == 0 ? 8 : 4);
                due("purpose(" + two + ", " + n + ", " + part + ")", x.purpose(one, other, n, part),
                    y.purpose(one, other, n, part));
                due("loses(" + two + ", " + n + ")", x.loses(one, other, n), y.loses(one, other, n));
                break;
            }
            case 22: case 23: {
                int set = set(one);
                int k = number(0, 3);
                due("order(" + one + ", " + set + ", " + k + ")", x.order(one, set, k), y.order(one, set, k));
                due("orderMean(" + one + ", " + set + ", " + part + ")", x.orderMean(one, set, part),
                    y.orderMean(one, set, part));
                break;
            }
            case 24: case 25: {
                int n = number(0, random.nextInt(8) == 0 ? 10 : 5);
                due("stakes(" + two + ", " + n + ", " + part + ")", x.stakes(one, other, n, part),
                    y.stakes(one, other, n, part));
                break;
            }
            case 26: case 27: {
                int n = number(1, random.nextInt(6) == 0 ? 8 : 5);
                due("table(" + one + ", " + n + ", " + part + ")", x.table(one, n, part), y.table(one, n, part));
                break;
            }
            case 28: case 29: {
                int who = random.nextInt(25) == 0 ? -1 : one;
                due("book(" + who + ", " + other + ")", x.book(who, other, won), y.book(who, other, won));
                break;
            }
            case 30: due("likely(" + one + ")", x.likely(one), y.likely(one)); break;
            case 31: due("says(" + one + ")", x.says(one), y.says(one)); break;
            case 32: {
                int men = random.nextInt(6) == 0 ? -1 : random.nextInt(4) == 0 ? number(1, 20)
                    : 7 + random.nextInt(3);
                due("tale(" + men + ")", x.tale(men), y.tale(men));
                break;
            }
            case 33: due("looked()", x.looked(), y.looked()); break;
            case 34: {
                int act = number(0, 2);
                int with = random.nextInt(4) == 0 ? random.nextInt() : random.nextInt(30);
                due("act(" + one + ", " + act + ", " + with + ")", x.act(one, act, with), y.act(one, act, with));
                break;
            }
            case 35: {
                int i = number(0, 7);
                due("trace(" + i + ")", x.trace(i), y.trace(i));
                int k = number(0, 6);
                due("as(" + one + ", " + k + ")", x.as(one, k), y.as(one, k));
                break;
            }
            case 36: {
                int dice = random.nextInt(5);
                if (dice < 2) {
                    due("image()", x.image(), y.image());
                } else if (dice == 2) {
                    due("undo()", x.undo(), y.undo());
                }
                break;
            }
            default: {
                int what = number(0, 5);
                due("count(" + what + ")", x.count(what), y.count(what));
                break;
            }
        }
    }

    private int set(int one) {
        int dice = random.nextInt(20);
        if (dice == 0) {
            return random.nextInt();
        }
        int all = (1 << y.count(0)) - 1;
        int set = dice < 6 ? all : random.nextInt(64) & (dice == 6 ? 63 : all);
        return dice == 7 || one < 0 || one > 4 ? set : set & ~(1 << one);
    }

    private void inn() {
        String text = random.nextInt(5) == 0 ? spoilt(random, text(random)) : text(random);
        for (int i = 0; i < text.length(); i++) {
            due("feed", x.feed(text.charAt(i)), y.feed(text.charAt(i)));
        }
        if (random.nextInt(10) > 0) {
            due("inn() of " + text, x.inn(), y.inn());
        }
    }

    /** Many texts, each read by a new object, so that FAULTS of all sorts are met. */
    private static void texts() {
        Random random = new Random(7);
        for (int i = 0; i < 6000; i++) {
            String text = text(random);
            for (int spoil = random.nextInt(3); spoil > 0; spoil--) {
                text = spoilt(random, text);
            }
            FewerMan x = new FewerMan();
            Oracle y = new Oracle();
            for (int at = 0; at < text.length(); at++) {
                x.feed(text.charAt(at));
                y.feed(text.charAt(at));
            }
            Check.due("inn() of \"" + text + "\"", x.inn(), y.inn());
        }
    }

    private static String spoilt(Random random, String text) {
        String signs = "liftduckessmor pkmog<=>0123456789!()&|;";
        int at = random.nextInt(text.length() + 1);
        String sign = "" + signs.charAt(random.nextInt(signs.length()));
        switch (random.nextInt(4)) {
            case 0: return text.substring(0, at);
            case 1: return text.substring(0, at) + sign + text.substring(at);
            case 2: return text.substring(0, at) + sign + text.substring(Math.min(text.length(), at + 1));
            default: return text.substring(0, at) + text.substring(Math.min(text.length(), at + 1));
        }
    }

    /** Mostly an INN; now and then with a clause, or an open sign, or bytes too many. */
    private static String text(Random random) {
        StringBuilder text = new StringBuilder();
        int clauses = random.nextInt(8) == 0 ? 8 + random.nextInt(4) : 1 + random.nextInt(4);
        for (int i = 0; i < clauses; i++) {
            if (i > 0) {
                text.append(';');
            }
            int word = clauses > 7 ? 2 + random.nextInt(2) : random.nextInt(4);
            int n = random.nextInt(10) == 0 ? random.nextInt(100) : random.nextInt(5);
            text.append(new String[] {"lift ", "duck ", "less ", "more "}[word]).append(n);
            if (word < 2) {
                text.append(' ');
                either(random, text, 0);
            }
        }
        return text.toString();
    }

    private static void either(Random random, StringBuilder text, int depth) {
        int parts = random.nextInt(5) < 3 ? 1 : 1 + random.nextInt(3);
        for (int i = 0; i < parts; i++) {
            if (i > 0) {
                text.append(random.nextInt(2) == 0 ? '|' : '&');
            }
            int dice = random.nextInt(depth > 5 ? 4 : 8);
            if (dice == 7) {
                text.append('!');
                dice = random.nextInt(3) == 0 ? 7 : 0;
                if (dice == 7) {
                    text.append('!');
                }
            }
            if (dice > 4) {
                text.append('(');
                either(random, text, depth + 1);
                text.append(')');
            } else {
                int what = random.nextInt(5);
                int most = new int[] {5, 7, 21, 21, 10}[what];
                text.append("pkmog".charAt(what)).append("<=>".charAt(random.nextInt(3)));
                text.append(random.nextInt(30) == 0 ? random.nextInt(100) : random.nextInt(most));
            }
        }
    }
}
