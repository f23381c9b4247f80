import java.util.ArrayList;
import java.util.Arrays;
import java.util.List;
import java.util.regex.Matcher;
import java.util.regex.Pattern;

/** The document once more, as slowly and plainly as can be, for comparison. */
final class Model {
    private static final int NONE = -1, BAD = -2, NO = -3, FULL = -4;

    static final class Man implements Cloneable {
        final int number;
        final int kind;
        final int legs;
        int post;
        boolean out;

        Man(int number, int kind, int legs) {
            this.number = number;
            this.kind = kind;
            this.legs = legs;
        }

        boolean waits() {
            return !out && post == 0;
        }

        Man copy() {
            Man m = new Man(number, kind, legs);
            m.post = post;
            m.out = out;
            return m;
        }
    }

    static final class Game {
        int bowler;
        List<Man> men = new ArrayList<>();
        Man next;
        int points;
        int balls;

        Game copy() {
            Game g = new Game();
            g.bowler = bowler;
            g.points = points;
            g.balls = balls;
            for (Man m : men) {
                Man c = m.copy();
                g.men.add(c);
                if (m == next) {
                    g.next = c;
                }
            }
            return g;
        }

        void add(int kind, int legs) {
            Man m = new Man(men.size(), kind, legs);
            men.add(m);
            if (next == null) {
                next = m;
            }
        }

        int ball(int h) {
            if (next == null) {
                return 0;
            }
            balls++;
            int before = points;
            int g = comes(bowler, h, balls);
            if (g == 0) {
                next.out = true;
            } else {
                int n = runs(next.kind, next.legs, g);
                if (n > 0) {
                    next.post = 0;
                    for (Man m : men) {
                        if (m == next || m.post > 0) {
                            m.post += n;
                            if (m.post >= 4) {
                                m.post = 0;
                                points += m == next ? 2 : 1;
                            }
                        }
                    }
                }
            }
            int at = men.indexOf(next);
            List<Man> round = new ArrayList<>(men.subList(at + 1, men.size()));
            round.addAll(men.subList(0, at + 1));
            next = null;
            for (Man m : round) {
                if (m.waits() && next == null) {
                    next = m;
                }
            }
            return points - before;
        }
    }

    static int comes(int kind, int h, int t) {
        if (kind == 0) {
            return h;
        }
        if (kind == 1) {
            return Math.max(comes(0, h, t) - 1, 0);
        }
        if (kind == 2) {
            return comes(0, h, t) + t % 2;
        }
        if (kind == 3) {
            return t % 4 == 0 ? 0 : comes(0, h, t);
        }
        if (kind == 4) {
            return comes(1, h, t) - (h >= 7 ? 2 : 0);
        }
        return comes(2, h, t) + (t >= 60 ? 3 : t / 20);
    }

    static int runs(int kind, int l, int g) {
        if (kind == 0) {
            return Math.min((g + l) / 3, 4);
        }
        if (kind == 1) {
            return runs(0, l, g) + (g >= 6 ? 1 : 0);
        }
        if (kind == 2) {
            return Math.min(runs(0, l, g), 1);
        }
        if (kind == 3) {
            return runs(0, l, g) + 1;
        }
        if (kind == 4) {
            return runs(3, l, g) + 1;
        }
        return g % 2 == 1 ? 0 : runs(2, l, g);
    }

    static final class All {
        Game game = new Game();
        int[] row = {5, 5, 5, 5, 5, 5, 5, 5};
        List<int[]> notes = new ArrayList<>();
        List<int[]> marks = new ArrayList<>();
        List<Game> past = new ArrayList<>();

        All copy() {
            All a = new All();
            a.game = game.copy();
            a.row = row.clone();
            a.notes.addAll(notes);
            a.marks.addAll(marks);
            for (Game g : past) {
                a.past.add(g.copy());
            }
            return a;
        }
    }

    private All all = new All();
    private final All[] images = new All[2];
    private String text = "";
    private long above = 0;
    private long below = 1;
    private final int[] status = new int[3];

    private int refuse(int why) {
        status[-2 - why]++;
        return why;
    }

    private static boolean out(int v, int least, int most) {
        return v < least || v > most;
    }

    private boolean nobody(int i) {
        return i < 0 || i >= all.game.men.size();
    }

    int field(int kind) {
        if (out(kind, 0, 5)) {
            return refuse(BAD);
        }
        int before = all.game.men.size();
        all = new All();
        all.game.bowler = kind;
        return before;
    }

    int bowler(int kind) {
        if (out(kind, 0, 5)) {
            return refuse(BAD);
        }
        int before = all.game.bowler;
        all.game.bowler = kind;
        all.past.clear();
        return before;
    }

    int batter(int kind, int legs) {
        if (out(kind, 0, 5) || out(legs, 1, 5)) {
            return refuse(BAD);
        }
        if (all.game.men.size() == 6) {
            return refuse(FULL);
        }
        all.past.clear();
        all.game.add(kind, legs);
        return all.game.men.size() - 1;
    }

    int type(int c) {
        if (out(c, 0, 127)) {
            return refuse(BAD);
        }
        if (text.length() == 150) {
            return refuse(FULL);
        }
        text += (char) c;
        return text.length();
    }

    int clear() {
        int before = text.length();
        text = "";
        return before;
    }

    /** The grammar as a row of states, one for each place that a token may stand at. */
    int read() {
        Matcher m = Pattern.compile("[a-z]+|[0-9]+|;|[^ ]", Pattern.DOTALL).matcher(text);
        Game g = new Game();
        String expects = "field";
        int items = 0;
        int kind = 0;
        int hits = 0;
        while (m.find()) {
            String token = m.group();
            int fault = -10 - m.start();
            int number = token.matches("[0-9]{1,2}") ? Integer.parseInt(token) : -1;
            switch (expects) {
                case "field":
                    if (!token.equals("field")) {
                        return fault;
                    }
                    expects = "field kind";
                    break;
                case "field kind":
                    if (out(number, 0, 5)) {
                        return fault;
                    }
                    g.bowler = number;
                    expects = ";";
                    break;
                case "item":
                    if (token.equals("batter") && g.men.size() < 6) {
                        expects = "kind";
                    } else if (token.equals("ball")) {
                        expects = "hit";
                        hits = 0;
                    } else {
                        return fault;
                    }
                    break;
                case "kind":
                    if (out(number, 0, 5)) {
                        return fault;
                    }
                    kind = number;
                    expects = "legs";
                    break;
                case "legs":
                    if (out(number, 1, 5)) {
                        return fault;
                    }
                    g.add(kind, number);
                    expects = ";";
                    break;
                case "hit":
                    if (token.equals(";") && hits > 0) {
                        items++;
                        expects = "item";
                    } else if (out(number, 0, 9) || hits == 9 || g.next == null) {
                        return fault;
                    } else {
                        g.ball(number);
                        hits++;
                    }
                    break;
                default:
                    if (!token.equals(";")) {
                        return fault;
                    }
                    items++;
                    expects = "item";
            }
        }
        if (!expects.equals("item")) {
            return -10 - text.length();
        }
        all = new All();
        all.game = g;
        return items;
    }

    private void remember() {
        all.past.add(all.game.copy());
        if (all.past.size() > 8) {
            all.past.remove(0);
        }
    }

    int hits(int h) {
        if (out(h, 0, 9)) {
            return refuse(BAD);
        }
        if (all.game.next == null) {
            return refuse(NO);
        }
        remember();
        return all.game.ball(h);
    }

    int sends(int i) {
        if (nobody(i)) {
            return refuse(BAD);
        }
        Man m = all.game.men.get(i);
        if (!m.waits() || m == all.game.next) {
            return refuse(NO);
        }
        remember();
        int before = all.game.next.number;
        all.game.next = m;
        return before;
    }

    int row(int k, int h) {
        if (out(k, 0, 7) || out(h, 0, 9)) {
            return refuse(BAD);
        }
        int before = all.row[k];
        all.row[k] = h;
        return before;
    }

    int undo() {
        if (all.past.isEmpty()) {
            return refuse(NO);
        }
        all.game = all.past.remove(all.past.size() - 1);
        return all.game.balls;
    }

    int of(int i, int what) {
        if (nobody(i) || out(what, 0, 2)) {
            return refuse(BAD);
        }
        Man m = all.game.men.get(i);
        return what == 0 ? m.kind : what == 1 ? m.legs : m.out ? 4 : m.post;
    }

    int worth(int h, int what) {
        if (out(h, 0, 9) || out(what, 0, 1)) {
            return refuse(BAD);
        }
        int g = comes(all.game.bowler, h, all.game.balls + 1);
        if (what == 0) {
            return g;
        }
        Man m = all.game.next;
        return m == null || g == 0 ? 0 : runs(m.kind, m.legs, g);
    }

    private int gainOf(Game g, int n) {
        Game c = g.copy();
        for (int k = 0; k < n; k++) {
            c.ball(all.row[k]);
        }
        return c.points - g.points;
    }

    int score(int n) {
        if (out(n, 0, 8)) {
            return refuse(BAD);
        }
        return gainOf(all.game, n);
    }

    private static void orders(List<Integer> begun, int size, List<List<Integer>> found) {
        if (begun.size() == size) {
            found.add(new ArrayList<>(begun));
            return;
        }
        for (int i = 0; i < size; i++) {
            if (!begun.contains(i)) {
                begun.add(i);
                orders(begun, size, found);
                begun.remove(begun.size() - 1);
            }
        }
    }

    int order(int n, int k) {
        if (out(n, 1, 8) || k < -1) {
            refuse(BAD);
            return -10;
        }
        List<List<Integer>> found = new ArrayList<>();
        orders(new ArrayList<>(), all.game.men.size(), found);
        int most = -1;
        List<Integer> best = null;
        for (List<Integer> order : found) {
            Game g = new Game();
            g.bowler = all.game.bowler;
            g.balls = all.game.balls;
            for (int i : order) {
                g.add(all.game.men.get(i).kind, all.game.men.get(i).legs);
            }
            int gain = gainOf(g, n);
            if (gain > most) {
                most = gain;
                best = order;
            }
        }
        return k == -1 ? most : k >= best.size() ? -5 : best.get(k);
    }

    int against(int n, int what) {
        if (out(n, 1, 8) || out(what, 0, 1)) {
            return refuse(BAD);
        }
        int least = Integer.MAX_VALUE;
        int best = -1;
        for (int kind = 5; kind >= 0; kind--) {
            Game g = all.game.copy();
            g.bowler = kind;
            if (gainOf(g, n) <= least) {
                least = gainOf(g, n);
                best = kind;
            }
        }
        return what == 0 ? best : least;
    }

    /** Points that are more, for each of all rows of n hits. */
    private static void allGains(Game g, int n, int from, List<Integer> gains) {
        if (n == 0) {
            gains.add(g.points - from);
            return;
        }
        for (int h = 0; h < 10; h++) {
            Game c = g.copy();
            c.ball(h);
            allGains(c, n - 1, from, gains);
        }
    }

    private static List<Integer> gainsOf(Game g, int n) {
        List<Integer> gains = new ArrayList<>();
        allGains(g, n, g.points, gains);
        return gains;
    }

    private void fraction(long a, long b) {
        long d = b;
        while (a % d != 0 || b % d != 0) {
            d--;
        }
        above = a / d;
        below = b / d;
    }

    int chance(int n, int x) {
        if (out(n, 0, 4) || out(x, 0, 20)) {
            return refuse(BAD);
        }
        List<Integer> gains = gainsOf(all.game, n);
        fraction(gains.stream().filter(v -> v >= x).count(), gains.size());
        return 1;
    }

    int mean(int n) {
        if (out(n, 0, 4)) {
            return refuse(BAD);
        }
        List<Integer> gains = gainsOf(all.game, n);
        fraction(gains.stream().mapToLong(v -> v).sum(), gains.size());
        return 1;
    }

    int send(int n) {
        if (out(n, 1, 3)) {
            return refuse(BAD);
        }
        int best = NONE;
        long most = -1;
        for (Man m : all.game.men) {
            if (m.waits()) {
                Game g = all.game.copy();
                g.next = g.men.get(m.number);
                long sum = gainsOf(g, n).stream().mapToLong(v -> v).sum();
                if (sum > most) {
                    most = sum;
                    best = m.number;
                }
            }
        }
        return best;
    }

    int note(int t, int h, int g) {
        if (out(t, 0, 99) || out(h, 0, 9) || out(g, 0, 20)) {
            return refuse(BAD);
        }
        if (all.notes.size() == 6) {
            return refuse(FULL);
        }
        all.notes.add(new int[] {t, h, g});
        return all.notes.size();
    }

    int mark(int i, int l, int g, int x) {
        if (nobody(i) || out(l, 1, 5) || out(g, 0, 20) || out(x, 0, 9)) {
            return refuse(BAD);
        }
        if (all.marks.size() == 6) {
            return refuse(FULL);
        }
        all.marks.add(new int[] {i, l, g, x});
        return all.marks.size();
    }

    int forget(int what) {
        if (out(what, 0, 1)) {
            return refuse(BAD);
        }
        List<int[]> rows = what == 0 ? all.notes : all.marks;
        int before = rows.size();
        rows.clear();
        return before;
    }

    private List<Integer> bowlers() {
        List<Integer> fit = new ArrayList<>(Arrays.asList(0, 1, 2, 3, 4, 5));
        for (int[] n : all.notes) {
            fit.removeIf(kind -> comes(kind, n[1], n[0]) != n[2]);
        }
        return fit;
    }

    private List<Integer> batters(int i) {
        List<Integer> fit = new ArrayList<>(Arrays.asList(0, 1, 2, 3, 4, 5));
        for (int[] m : all.marks) {
            fit.removeIf(kind -> m[0] == i && runs(kind, m[1], m[2]) != m[3]);
        }
        return fit;
    }

    private static int bits(List<Integer> fit) {
        return fit.stream().mapToInt(kind -> 1 << kind).sum();
    }

    private static int most(int[] groups) {
        return Arrays.stream(groups).max().getAsInt();
    }

    int is() {
        return bits(bowlers());
    }

    int look() {
        int best = NONE;
        int fewest = 7;
        if (!bowlers().isEmpty()) {
            for (int place = 0; place < 100; place++) {
                int[] groups = new int[30];
                for (int kind : bowlers()) {
                    groups[comes(kind, place % 10, place / 10)]++;
                }
                if (most(groups) < fewest) {
                    fewest = most(groups);
                    best = place;
                }
            }
        }
        return best;
    }

    int kinds(int i) {
        return nobody(i) ? refuse(BAD) : bits(batters(i));
    }

    int ask(int i) {
        if (nobody(i)) {
            return refuse(BAD);
        }
        int best = NONE;
        int fewest = 7;
        if (!batters(i).isEmpty()) {
            for (int g = 1; g <= 20; g++) {
                int[] groups = new int[30];
                for (int kind : batters(i)) {
                    groups[runs(kind, all.game.men.get(i).legs, g)]++;
                }
                if (most(groups) < fewest) {
                    fewest = most(groups);
                    best = g;
                }
            }
        }
        return best;
    }

    private int gainOfPair(int i, int j) {
        Game g = all.game.copy();
        g.next = g.men.get(i);
        g.bowler = j;
        return gainOf(g, 4);
    }

    int captains(int k) {
        if (k < -1) {
            refuse(BAD);
            return -10;
        }
        List<Integer> resting = new ArrayList<>();
        for (int i = 0; i < all.game.men.size(); i++) {
            for (int j = 0; j < 6 && all.game.men.get(i).waits(); j++) {
                boolean rests = true;
                for (Man m : all.game.men) {
                    rests &= !m.waits() || gainOfPair(m.number, j) <= gainOfPair(i, j);
                }
                for (int kind = 0; kind < 6; kind++) {
                    rests &= gainOfPair(i, kind) >= gainOfPair(i, j);
                }
                if (rests) {
                    resting.add(10 * i + j);
                }
            }
        }
        return k == -1 ? resting.size() : k < resting.size() ? resting.get(k) : -5;
    }

    int days(int seed, int n) {
        if (out(seed, 0, 999999) || out(n, 0, 60)) {
            return refuse(BAD);
        }
        Game g = all.game.copy();
        long x = seed;
        for (int day = 0; day < n; day++) {
            x = Math.floorMod(Math.addExact(Math.multiplyExact(x, 1103515245L), 12345L), 1L << 31);
            g.ball((int) ((x >> 16) % 10));
        }
        return g.points - all.game.points;
    }

    long part(int what) {
        return what == 0 ? above : what == 1 ? below : refuse(BAD);
    }

    int image(int i) {
        if (out(i, 0, 1)) {
            return refuse(BAD);
        }
        images[i] = all.copy();
        return 1;
    }

    int from(int i) {
        if (out(i, 0, 1)) {
            return refuse(BAD);
        }
        if (images[i] == null) {
            return refuse(NO);
        }
        all = images[i].copy();
        return 1;
    }

    int status(int what) {
        if (out(what, 0, 2)) {
            refuse(BAD);
            return -1;
        }
        return status[what];
    }

    int count(int what) {
        Game g = all.game;
        switch (what) {
            case 0: return g.men.size();
            case 1: return (int) g.men.stream().filter(Man::waits).count();
            case 2: return (int) g.men.stream().filter(m -> m.post > 0).count();
            case 3: return (int) g.men.stream().filter(m -> m.out).count();
            case 4: return g.next == null ? NONE : g.next.number;
            case 5: return g.points;
            case 6: return g.balls;
            case 7: return g.bowler;
            case 8: return all.notes.size();
            case 9: return all.marks.size();
            case 10: return all.past.size();
            case 11: return text.length();
            default: return refuse(BAD);
        }
    }

    long digest() {
        List<Long> values = new ArrayList<>();
        for (int what = 0; what < 12; what++) {
            values.add((long) count(what));
        }
        for (Man m : all.game.men) {
            values.add((long) m.kind);
            values.add((long) m.legs);
            values.add((long) (m.out ? 4 : m.post));
        }
        for (int h : all.row) {
            values.add((long) h);
        }
        for (int[] n : all.notes) {
            for (int v : n) {
                values.add((long) v);
            }
        }
        for (int[] m : all.marks) {
            for (int v : m) {
                values.add((long) v);
            }
        }
        values.add(above);
        values.add(below);
        long h = 1873;
        for (long v : values) {
            h = 31 * h + v;
        }
        return h;
    }
}
