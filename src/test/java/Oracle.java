import java.math.BigInteger;
import java.util.ArrayDeque;
import java.util.ArrayList;
import java.util.Arrays;
import java.util.List;

/**
 * The document once more, plain and slow: every course of the games is gone through one by one, and an INN stays
 * a text. OracleTest holds FewerMan against it.
 */
final class Oracle {
    static final long NO = Long.MIN_VALUE;

    /** What undo brings back. */
    static final class State {
        List<int[]> players = new ArrayList<>();
        int game;
        List<String> inns = new ArrayList<>();
        String tape = "";
        List<int[]> book = new ArrayList<>();
        List<Integer> tales = new ArrayList<>();

        State copy() {
            State s = new State();
            for (int[] p : players) {
                s.players.add(p.clone());
            }
            s.game = game;
            s.inns.addAll(inns);
            s.tape = tape;
            for (int[] b : book) {
                s.book.add(b.clone());
            }
            s.tales.addAll(tales);
            return s;
        }
    }

    // A player: kind, v, men, and the row from 3 on.
    private static final int K = 0, V = 1, M = 2, R = 3;

    private State now = new State();
    private State kept;
    private List<Integer> ran = new ArrayList<>();

    // ---- inns

    int feed(int sign) {
        if (sign < 0 || sign > 127) {
            return -2;
        }
        if (now.tape.length() == 100) {
            return -4;
        }
        now.tape += (char) sign;
        return now.tape.length();
    }

    int inn() {
        if (now.inns.size() == 5) {
            return -4;
        }
        int fault = fault(now.tape);
        String text = now.tape;
        now.tape = "";
        if (fault >= 0) {
            return -10 - fault;
        }
        now.inns.add(text);
        return now.inns.size() - 1;
    }

    /** -1 if the text is an INN. The signs that may come next are told by a machine with a pile of what is open. */
    static int fault(String text) {
        ArrayDeque<Character> open = new ArrayDeque<>();
        int clauses = 1;
        String state = "";
        for (int i = 0; i < text.length(); i++) {
            char c = text.charAt(i);
            String next = null;
            switch (state) {
                case "": case "l": case "li": case "lif": case "le": case "les": case "d": case "du": case "duc":
                case "m": case "mo": case "mor":
                    for (String word : new String[] {"lift", "duck", "less", "more"}) {
                        if (word.startsWith(state + c)) {
                            next = state + c;
                        }
                    }
                    break;
                case "lift": case "duck": next = c == ' ' ? "n" : null; break;
                case "less": case "more": next = c == ' ' ? "N" : null; break;
                case "n": case "N": next = c == '0' ? state + "2" : Character.isDigit(c) ? state + "1" : null; break;
                case "n1": case "N1":
                    if (Character.isDigit(c)) {
                        next = state.charAt(0) + "2";
                        break;
                    }
                    next = behindNumber(state.charAt(0), c, clauses);
                    break;
                case "n2": case "N2": next = behindNumber(state.charAt(0), c, clauses); break;
                case "F":
                    if (c == '!' || c == '(') {
                        if (open.size() < 5) {
                            open.push(c);
                            next = "F";
                        }
                    } else if ("pkmog".indexOf(c) >= 0) {
                        next = "c";
                    }
                    break;
                case "c": next = "<=>".indexOf(c) >= 0 ? "t" : null; break;
                case "t": next = c == '0' ? "t2" : Character.isDigit(c) ? "t1" : null; break;
                case "t1": case "t2": case ")":
                    if (state.equals("t1") && Character.isDigit(c)) {
                        next = "t2";
                        break;
                    }
                    while (!open.isEmpty() && open.peek() == '!') {
                        open.pop();
                    }
                    if (c == '&' || c == '|') {
                        next = "F";
                    } else if (c == ')' && !open.isEmpty()) {
                        open.pop();
                        next = ")";
                    } else if (c == ';' && open.isEmpty() && clauses < 10) {
                        next = "";
                    }
                    break;
                default: throw new IllegalStateException(state);
            }
            if (next == null) {
                return i;
            }
            if (c == ';') {
                clauses++;
            }
            state = next;
        }
        while (!open.isEmpty() && open.peek() == '!') {
            open.pop();
        }
        boolean ended = List.of("N1", "N2", "t1", "t2", ")").contains(state) && open.isEmpty();
        return ended ? -1 : text.length();
    }

    private static String behindNumber(char word, char c, int clauses) {
        if (word == 'n') {
            return c == ' ' ? "F" : null;
        }
        return c == ';' && clauses < 10 ? "" : null;
    }

    private String[] clauses() {
        return now.inns.isEmpty() ? new String[0] : now.inns.get(now.inns.size() - 1).split(";");
    }

    private int last(String word) {
        int n = 1;
        for (String clause : clauses()) {
            if (clause.startsWith(word)) {
                n = Integer.parseInt(clause.substring(5));
            }
        }
        return n;
    }

    /** Cuts at a sign that stands in no bracket. */
    private static List<String> cut(String text, char at) {
        List<String> parts = new ArrayList<>();
        int depth = 0;
        int from = 0;
        for (int i = 0; i < text.length(); i++) {
            char c = text.charAt(i);
            depth += c == '(' ? 1 : c == ')' ? -1 : 0;
            if (c == at && depth == 0) {
                parts.add(text.substring(from, i));
                from = i + 1;
            }
        }
        parts.add(text.substring(from));
        return parts;
    }

    private static boolean holds(String e, int p, int k, int m, int o, int g) {
        List<String> ors = cut(e, '|');
        if (ors.size() > 1) {
            return ors.stream().anyMatch(t -> holds(t, p, k, m, o, g));
        }
        List<String> ands = cut(e, '&');
        if (ands.size() > 1) {
            return ands.stream().allMatch(t -> holds(t, p, k, m, o, g));
        }
        if (e.charAt(0) == '!') {
            return !holds(e.substring(1), p, k, m, o, g);
        }
        if (e.charAt(0) == '(') {
            return holds(e.substring(1, e.length() - 1), p, k, m, o, g);
        }
        int value = new int[] {p, k, m, o, g}["pkmog".indexOf(e.charAt(0))];
        int n = Integer.parseInt(e.substring(2));
        return e.charAt(1) == '<' ? value < n : e.charAt(1) == '=' ? value == n : value > n;
    }

    // ---- players

    int player(int kind, int v) {
        if (kind < 0 || kind > 6) {
            return -1;
        }
        if (v < 0 || v > 9) {
            return -2;
        }
        if (now.players.size() == 5) {
            return -4;
        }
        now.players.add(new int[] {kind, v, 8, 4, 4, 4, 4});
        return now.players.size() - 1;
    }

    private boolean there(int p) {
        return p >= 0 && p < now.players.size();
    }

    private int pair(int one, int other) {
        return !there(one) || !there(other) ? -1 : one == other ? -2 : 0;
    }

    int of(int p, int what) {
        return there(p) && what >= 0 && what < 3 ? now.players.get(p)[what] : -1;
    }

    int men(int p, int n) {
        if (!there(p)) {
            return -1;
        }
        if (n < 1 || n > 20) {
            return -2;
        }
        int was = now.players.get(p)[M];
        now.players.get(p)[M] = n;
        return was;
    }

    int row(int p, int k, int n) {
        if (!there(p) || k < 0 || k > 3) {
            return -1;
        }
        if (n < 0 || n > 9) {
            return -2;
        }
        if (now.players.get(p)[K] != 6) {
            return -3;
        }
        int was = now.players.get(p)[R + k];
        now.players.get(p)[R + k] = n;
        return was;
    }

    int told(int what) {
        return what == 0 ? now.game : what == 1 ? last("less") : what == 2 ? last("more") : -1;
    }

    private int pushNow(int one, int other) {
        int[] p = now.players.get(one);
        int m = p[M];
        int o = now.players.get(other)[M];
        int sum = p[V];
        for (String clause : clauses()) {
            if (clause.startsWith("lift") || clause.startsWith("duck")) {
                String[] words = clause.split(" ");
                if (holds(words[2], one, p[K], m, o, now.game % 10)) {
                    sum += (words[0].equals("lift") ? 1 : -1) * Integer.parseInt(words[1]);
                }
            }
        }
        if ((p[K] == 1 || p[K] == 4) && m < o) {
            sum += 2;
        }
        if (p[K] == 4) {
            sum += 1;
        }
        if ((p[K] == 2 || p[K] == 5 && now.game < p[V] + 2) && m < 4) {
            sum -= 9;
        }
        if ((p[K] == 3 || p[K] == 6) && now.game < 3) {
            sum -= 1;
        }
        if (p[K] == 6) {
            sum += p[R + now.game % 4] - 4;
        }
        return sum;
    }

    int push(int one, int other) {
        int no = pair(one, other);
        return no != 0 ? -10000 + no : pushNow(one, other);
    }

    private int oddsNow(int one, int other) {
        int gap = now.players.get(one)[M] - now.players.get(other)[M];
        int half = Math.abs(gap) / 2 * Integer.signum(gap);
        int sum = 5 + pushNow(one, other) - pushNow(other, one) + half;
        return sum < 1 ? 1 : sum > 9 ? 9 : sum;
    }

    int odds(int one, int other) {
        int no = pair(one, other);
        return no != 0 ? no : oddsNow(one, other);
    }

    private void game(int one, int other, boolean won) {
        int[] winner = now.players.get(won ? one : other);
        int[] loser = now.players.get(won ? other : one);
        winner[M] = Math.max(1, winner[M] - last("less"));
        loser[M] = Math.min(20, loser[M] + last("more"));
        now.game++;
    }

    int play(int one, int other, boolean won) {
        int no = pair(one, other);
        if (no != 0) {
            return no;
        }
        if (now.game == 9999) {
            return -3;
        }
        game(one, other, won);
        return of(one, 2);
    }

    // ---- games to come: a course is one row of who won; it weighs the product of its odds

    private interface Course {
        /** What a course counts, when so many games have gone; the one told first has won so many. */
        long counts(int games, int won);
    }

    private interface Over {
        boolean is(int games, int won);
    }

    /** The sum over all courses of n games, in parts of 10 to n. */
    private BigInteger courses(int one, int other, int n, int games, int won, Over over, Course course) {
        if (games == n || over.is(games, won)) {
            return BigInteger.valueOf(course.counts(games, won)).multiply(BigInteger.TEN.pow(n - games));
        }
        int odds = oddsNow(one, other);
        BigInteger sum = BigInteger.ZERO;
        for (int w = 0; w < 2; w++) {
            int m = now.players.get(one)[M];
            int o = now.players.get(other)[M];
            game(one, other, w == 1);
            BigInteger part = courses(one, other, n, games + 1, won + w, over, course);
            sum = sum.add(part.multiply(BigInteger.valueOf(w == 1 ? odds : 10 - odds)));
            now.players.get(one)[M] = m;
            now.players.get(other)[M] = o;
            now.game--;
        }
        return sum;
    }

    private static long part(BigInteger above, int n, int part) {
        BigInteger below = BigInteger.TEN.pow(n);
        BigInteger divisor = above.gcd(below);
        return (part == 0 ? above : below).divide(divisor).longValueExact();
    }

    private boolean refused(int one, int other, int n, int least, int most, int part) {
        return pair(one, other) != 0 || n < least || n > most || part < 0 || part > 1;
    }

    long wins(int one, int other, int n, int w, int part) {
        if (refused(one, other, n, 0, 12, part) || w < 0 || w > n) {
            return NO;
        }
        return part(courses(one, other, n, 0, 0, (g, won) -> false, (g, won) -> won == w ? 1 : 0), n, part);
    }

    long mean(int one, int other, int n, int part) {
        if (refused(one, other, n, 0, 12, part)) {
            return NO;
        }
        return part(courses(one, other, n, 0, 0, (g, won) -> false, (g, won) -> of(one, 2)), n, part);
    }

    long series(int one, int other, int k, int part) {
        if (refused(one, other, k, 1, 5, part)) {
            return NO;
        }
        return part(courses(one, other, 2 * k - 1, 0, 0, (g, won) -> won == k || g - won == k,
            (g, won) -> won == k ? 1 : 0), 2 * k - 1, part);
    }

    long ends(int one, int other, int n, int part) {
        if (refused(one, other, n, 0, 12, part)) {
            return NO;
        }
        return part(courses(one, other, n, 0, 0, (g, won) -> of(one, 2) == 1,
            (g, won) -> of(one, 2) == 1 ? 1 : 0), n, part);
    }

    long stakes(int one, int other, int n, int part) {
        if (refused(one, other, n, 0, 10, part)) {
            return NO;
        }
        return part(staked(one, other, n, 0), n, part);
    }

    private BigInteger staked(int one, int other, int n, long paid) {
        if (n == 0) {
            return BigInteger.valueOf(paid);
        }
        int odds = oddsNow(one, other);
        int m = now.players.get(one)[M];
        int o = now.players.get(other)[M];
        BigInteger sum = BigInteger.ZERO;
        for (int w = 0; w < 2; w++) {
            game(one, other, w == 1);
            BigInteger part = staked(one, other, n - 1, w == 1 ? paid + o : paid - m);
            sum = sum.add(part.multiply(BigInteger.valueOf(w == 1 ? odds : 10 - odds)));
            now.players.get(one)[M] = m;
            now.players.get(other)[M] = o;
            now.game--;
        }
        return sum;
    }

    int even(int one, int other) {
        int no = pair(one, other);
        if (no != 0) {
            return no;
        }
        int had = of(one, 2);
        for (int gap = 0; gap < 10; gap++) {
            for (int m = 1; m <= 20; m++) {
                now.players.get(one)[M] = m;
                if (Math.abs(oddsNow(one, other) - 5) == gap) {
                    now.players.get(one)[M] = had;
                    return m;
                }
            }
        }
        throw new IllegalStateException();
    }

    /** At best, and whether the first is lost on purpose. */
    private BigInteger[] best(int one, int other, int left) {
        int odds = oddsNow(one, other);
        if (left == 1) {
            return new BigInteger[] {BigInteger.valueOf(odds), BigInteger.ZERO};
        }
        State here = now;
        BigInteger[] then = new BigInteger[2];
        for (int w = 0; w < 2; w++) {
            now = here.copy();
            game(one, other, w == 1);
            then[w] = best(one, other, left - 1)[0];
        }
        now = here;
        BigInteger onPurpose = then[0].multiply(BigInteger.TEN);
        BigInteger played = then[1].multiply(BigInteger.valueOf(odds))
            .add(then[0].multiply(BigInteger.valueOf(10 - odds)));
        return onPurpose.compareTo(played) > 0 ? new BigInteger[] {onPurpose, BigInteger.ONE}
            : new BigInteger[] {played, BigInteger.ZERO};
    }

    long purpose(int one, int other, int n, int part) {
        return refused(one, other, n, 1, 8, part) ? NO : part(best(one, other, n)[0], n, part);
    }

    int loses(int one, int other, int n) {
        int no = pair(one, other);
        if (no != 0) {
            return no;
        }
        return n < 1 || n > 8 ? -2 : best(one, other, n)[1].intValue();
    }

    // ---- rows

    private boolean noSet(int p, int set) {
        for (int i = 0; i < 32; i++) {
            if ((set >>> i & 1) == 1 && (!there(i) || i == p)) {
                return true;
            }
        }
        return false;
    }

    private void rows(List<Integer> row, int set, List<List<Integer>> all) {
        if (set == 0) {
            all.add(new ArrayList<>(row));
        }
        for (int i = 0; i < 5; i++) {
            if ((set >> i & 1) == 1) {
                row.add(i);
                rows(row, set ^ 1 << i, all);
                row.remove(row.size() - 1);
            }
        }
    }

    private BigInteger rowMean(int p, List<Integer> row, int at, int won) {
        if (at == row.size()) {
            return BigInteger.valueOf(won);
        }
        State here = now;
        int odds = oddsNow(p, row.get(at));
        BigInteger sum = BigInteger.ZERO;
        for (int w = 0; w < 2; w++) {
            now = here.copy();
            game(p, row.get(at), w == 1);
            sum = sum.add(rowMean(p, row, at + 1, won + w).multiply(BigInteger.valueOf(w == 1 ? odds : 10 - odds)));
        }
        now = here;
        return sum;
    }

    private List<Integer> bestRow(int p, int set) {
        List<List<Integer>> all = new ArrayList<>();
        rows(new ArrayList<>(), set, all);
        List<Integer> best = null;
        BigInteger most = null;
        for (List<Integer> row : all) {
            BigInteger mean = rowMean(p, row, 0, 0);
            if (most == null || mean.compareTo(most) > 0) {
                most = mean;
                best = row;
            }
        }
        return best;
    }

    int order(int p, int set, int k) {
        if (!there(p) || k < 0 || k > 3) {
            return -1;
        }
        if (noSet(p, set)) {
            return -2;
        }
        List<Integer> best = bestRow(p, set);
        return k < best.size() ? best.get(k) : -5;
    }

    long orderMean(int p, int set, int part) {
        if (!there(p) || noSet(p, set) || part < 0 || part > 1) {
            return NO;
        }
        List<Integer> best = bestRow(p, set);
        return part(rowMean(p, best, 0, 0), best.size(), part);
    }

    // ---- the table

    long table(int p, int n, int part) {
        if (!there(p) || n < 1 || n > 8 || part < 0 || part > 1 || now.players.size() < 2) {
            return NO;
        }
        List<Integer> waits = new ArrayList<>();
        for (int i = 2; i < now.players.size(); i++) {
            waits.add(i);
        }
        return part(seated(p, n, 0, 1, waits), n, part);
    }

    private BigInteger seated(int p, int left, int one, int other, List<Integer> waits) {
        State here = now;
        int odds = oddsNow(one, other);
        BigInteger sum = BigInteger.ZERO;
        for (int w = 0; w < 2; w++) {
            int winner = w == 1 ? one : other;
            int loser = w == 1 ? other : one;
            BigInteger chance;
            if (left == 1) {
                chance = winner == p ? BigInteger.ONE : BigInteger.ZERO;
            } else {
                now = here.copy();
                game(one, other, w == 1);
                List<Integer> then = new ArrayList<>(waits);
                int comes = then.isEmpty() ? loser : then.remove(0);
                if (comes != loser) {
                    then.add(loser);
                }
                chance = seated(p, left - 1, winner, comes, then);
            }
            sum = sum.add(chance.multiply(BigInteger.valueOf(w == 1 ? odds : 10 - odds)));
        }
        now = here;
        return sum;
    }

    // ---- books

    int book(int one, int other, boolean won) {
        if (one == -1) {
            now.book.clear();
            return 0;
        }
        int no = pair(one, other);
        if (no != 0) {
            return no;
        }
        if (now.book.size() == 8) {
            return -4;
        }
        now.book.add(new int[] {one, other, won ? 1 : 0});
        return now.book.size();
    }

    int likely(int p) {
        if (!there(p)) {
            return -1;
        }
        State here = now;
        int best = -1;
        long most = -1;
        for (int v = 0; v < 10; v++) {
            now = here.copy();
            now.players.get(p)[V] = v;
            long chance = 1;
            for (int[] b : here.book) {
                chance *= b[2] == 1 ? oddsNow(b[0], b[1]) : 10 - oddsNow(b[0], b[1]);
                game(b[0], b[1], b[2] == 1);
            }
            if (chance > most) {
                most = chance;
                best = v;
            }
        }
        now = here;
        return best;
    }

    private int menBehind(int p, int games) {
        State here = now;
        now = here.copy();
        for (int i = 0; i < games; i++) {
            int[] b = here.book.get(i);
            game(b[0], b[1], b[2] == 1);
        }
        int men = of(p, 2);
        now = here;
        return men;
    }

    int says(int p) {
        return there(p) ? menBehind(p, now.book.size()) : -1;
    }

    int tale(int men) {
        if (men == -1) {
            now.tales.clear();
            return 0;
        }
        if (men < 1 || men > 20) {
            return -2;
        }
        if (now.tales.size() == 8) {
            return -4;
        }
        now.tales.add(men);
        return now.tales.size();
    }

    int looked() {
        if (now.players.isEmpty()) {
            return -3;
        }
        for (int i = 0; i < now.tales.size(); i++) {
            if (i + 1 > now.book.size() || menBehind(0, i + 1) != now.tales.get(i)) {
                return i;
            }
        }
        return -5;
    }

    // ---- acts: the kinds as classes of this language

    private static class Plain {
        List<Integer> ran;
        int i;
        int v;

        int moves(int x) {
            ran.add(1);
            return x + i;
        }

        int bets(int x) {
            ran.add(2);
            return moves(x) - v;
        }

        int tells(int x) {
            ran.add(3);
            return bets(x) * 2;
        }
    }

    private static class Master extends Plain {
        @Override
        int moves(int x) {
            ran.add(11);
            return super.moves(x * 3);
        }
    }

    private static class Sly extends Plain {
        @Override
        int bets(int x) {
            ran.add(21);
            return -super.bets(x);
        }
    }

    private static class New extends Plain {
        @Override
        int tells(int x) {
            ran.add(31);
            return super.tells(x) ^ 7;
        }
    }

    private static class Grand extends Master {
        @Override
        int tells(int x) {
            ran.add(41);
            return super.tells(x - 1) + moves(2);
        }
    }

    private static class Prize extends Sly {
        @Override
        int moves(int x) {
            ran.add(51);
            return super.moves(x) ^ i;
        }
    }

    private static class Told extends New {
        @Override
        int bets(int x) {
            ran.add(61);
            return super.bets(x) + v;
        }
    }

    private Plain one(int p) {
        Plain[] kinds = {new Plain(), new Master(), new Sly(), new New(), new Grand(), new Prize(), new Told()};
        Plain plain = kinds[now.players.get(p)[K]];
        plain.ran = ran;
        plain.i = p;
        plain.v = now.players.get(p)[V];
        return plain;
    }

    int act(int p, int act, int x) {
        ran.clear();
        if (!there(p) || act < 0 || act > 2) {
            return 0;
        }
        Plain plain = one(p);
        return act == 0 ? plain.moves(x) : act == 1 ? plain.bets(x) : plain.tells(x);
    }

    int trace(int i) {
        return i < 0 || i >= Math.min(20, ran.size()) ? -1 : ran.get(i);
    }

    int as(int p, int k) {
        if (!there(p) || k < 0 || k > 6) {
            return -1;
        }
        Class<?>[] kinds = {Plain.class, Master.class, Sly.class, New.class, Grand.class, Prize.class, Told.class};
        return kinds[k].isInstance(one(p)) ? now.players.get(p)[V] : -6;
    }

    int image() {
        kept = now.copy();
        return now.players.size();
    }

    int undo() {
        if (kept == null) {
            return -3;
        }
        now = kept.copy();
        return now.players.size();
    }

    int count(int what) {
        int[] all = {now.players.size(), now.inns.size(), now.book.size(), now.tales.size(), now.tape.length(),
            ran.size()};
        return what < 0 || what >= all.length ? -1 : Arrays.stream(all, what, what + 1).sum();
    }
}
