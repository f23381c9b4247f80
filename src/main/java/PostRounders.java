import java.util.Arrays;

/** Rounders with four posts: a field, its balls, and what can be told ahead of them. */
public final class PostRounders {
    public static final int NONE = -1, BAD = -2, NO = -3, FULL = -4;

    private static final int NOT_SO_MANY = -5;
    private static final int BAD_LIST = -10;
    private static final int FAULT_BASE = -10;

    private static final int KINDS = 6;
    private static final int MOST_BATTERS = 6;
    private static final int MOST_LEGS = 5;
    private static final int MOST_HIT = 9;
    private static final int MOST_COUNTED = 9999;
    private static final int WAITS = 0;
    private static final int HOME = 4;
    private static final int OUT = 4;

    private static final int ROW_HITS = 8;
    private static final int FIRST_HIT = 5;
    private static final int CAPTAINS_BALLS = 4;
    private static final int ORDERS = 720;

    private static final int RANDOM_BALLS = 4;
    private static final int SEND_BALLS = 3;
    private static final int MOST_GAIN = 20;
    private static final int WAYS = 6;
    private static final int[] TENS = {1, 10, 100, 1000, 10000};

    private static final int MOST_SEEN = 6;
    private static final int NOTE_WIDTH = 3;
    private static final int MARK_WIDTH = 4;
    private static final int MOST_NOTED_BALL = 99;
    private static final int MOST_G = 20;
    private static final int MOST_MARKED_POSTS = 9;
    private static final int LOOKS = 100;

    private static final int MOST_UNDONE = 8;
    private static final int MOMENT_WIDTH = MOST_BATTERS + 3;
    private static final int MOST_TEXT = 150;
    private static final int MOST_BYTE = 127;
    private static final int ITEM_HITS = 9;
    private static final int IMAGES = 2;
    private static final int COUNTS = 12;

    private static final int MOST_SEED = 999999;
    private static final int MOST_DAYS = 60;

    private final Field now = new Field();
    private final Field[] images = new Field[IMAGES];
    private final int[] text = new int[MOST_TEXT];
    private int textLength;
    private long above;
    private long below = 1;
    private final int[] refusals = new int[3];

    // Room that calls use again and again, so that they make nothing new.
    private final Reader reader = new Reader();
    private final Chances chances = new Chances();
    private final Play trial = new Play();
    private final int[] turn = new int[MOST_BATTERS];
    private final int[] bestTurn = new int[MOST_BATTERS];
    private final int[] seen = new int[KINDS];
    private final int[][] gains = new int[MOST_BATTERS][KINDS];

    public PostRounders() {
    }

    // ---- a field

    public int field(int kind) {
        if (!isKind(kind)) {
            return refuse(BAD);
        }
        int before = now.play.size;
        now.begin(kind);
        return before;
    }

    public int bowler(int kind) {
        if (!isKind(kind)) {
            return refuse(BAD);
        }
        int before = now.play.bowler;
        now.play.bowler = kind;
        now.past.empty();
        return before;
    }

    public int batter(int kind, int legs) {
        if (!isKind(kind) || !within(legs, 1, MOST_LEGS)) {
            return refuse(BAD);
        }
        if (now.play.size >= MOST_BATTERS) {
            return refuse(FULL);
        }
        now.past.empty();
        return now.play.join(kind, legs);
    }

    public int type(int c) {
        if (!within(c, 0, MOST_BYTE)) {
            return refuse(BAD);
        }
        if (textLength >= MOST_TEXT) {
            return refuse(FULL);
        }
        text[textLength] = c;
        textLength++;
        return textLength;
    }

    public int clear() {
        int before = textLength;
        textLength = 0;
        return before;
    }

    public int read() {
        int items = reader.readText(text, textLength);
        if (items >= 0) {
            now.begin(0);
            now.play.copy(reader.play);
        }
        return items;
    }

    // ---- balls

    public int hits(int h) {
        if (!isHit(h)) {
            return refuse(BAD);
        }
        if (now.play.isDone() || now.play.balls >= MOST_COUNTED) {
            return refuse(NO);
        }
        int before = now.play.points;
        now.remember();
        now.play.ball(h);
        now.play.points = Math.min(MOST_COUNTED, now.play.points);
        return now.play.points - before;
    }

    public int sends(int i) {
        if (!isBatter(i)) {
            return refuse(BAD);
        }
        if (now.play.where[i] != WAITS || now.play.next == i) {
            return refuse(NO);
        }
        int before = now.play.next;
        now.remember();
        now.play.next = i;
        return before;
    }

    public int row(int k, int h) {
        if (!within(k, 0, ROW_HITS - 1) || !isHit(h)) {
            return refuse(BAD);
        }
        int before = now.rowHits[k];
        now.rowHits[k] = h;
        return before;
    }

    public int undo() {
        if (now.past.size() == 0) {
            return refuse(NO);
        }
        now.goBack();
        return now.play.balls;
    }

    public int of(int i, int what) {
        if (!isBatter(i) || !within(what, 0, 2)) {
            return refuse(BAD);
        }
        return now.play.told(i, what);
    }

    public int worth(int h, int what) {
        if (!isHit(h) || !within(what, 0, 1)) {
            return refuse(BAD);
        }
        return what == 0 ? now.play.comesTo(h) : Math.max(0, now.play.postsBy(h));
    }

    // ---- how it goes

    public int score(int n) {
        if (!within(n, 0, ROW_HITS)) {
            return refuse(BAD);
        }
        return scoreAgainst(now.play.bowler, now.play.next, n);
    }

    public int order(int n, int k) {
        if (!within(n, 1, ROW_HITS) || k < NONE) {
            refuse(BAD);
            return BAD_LIST;
        }
        if (k >= now.play.size) {
            return NOT_SO_MANY;
        }
        int most = findBestTurn(n);
        return k < 0 ? most : bestTurn[k];
    }

    public int against(int n, int what) {
        if (!within(n, 1, ROW_HITS) || !within(what, 0, 1)) {
            return refuse(BAD);
        }
        int best = 0;
        int least = scoreAgainst(0, now.play.next, n);
        for (int kind = 1; kind < KINDS; kind++) {
            int gain = scoreAgainst(kind, now.play.next, n);
            if (gain < least) {
                least = gain;
                best = kind;
            }
        }
        return what == 0 ? best : least;
    }

    public int chance(int n, int x) {
        if (!within(n, 0, RANDOM_BALLS) || !within(x, 0, MOST_GAIN)) {
            return refuse(BAD);
        }
        chances.spread(now.play, n);
        keepFraction(chances.casesFrom(x), TENS[n]);
        return 1;
    }

    public int mean(int n) {
        if (!within(n, 0, RANDOM_BALLS)) {
            return refuse(BAD);
        }
        chances.spread(now.play, n);
        keepFraction(chances.sumOfGains(), TENS[n]);
        return 1;
    }

    public int send(int n) {
        if (!within(n, 1, SEND_BALLS)) {
            return refuse(BAD);
        }
        int best = NONE;
        int most = -1;
        trial.copy(now.play);
        for (int i = 0; i < trial.size; i++) {
            if (trial.where[i] == WAITS) {
                trial.next = i;
                chances.spread(trial, n);
                int sum = chances.sumOfGains();
                if (sum > most) {
                    most = sum;
                    best = i;
                }
            }
        }
        return best;
    }

    // ---- who it is

    public int note(int t, int h, int g) {
        if (!within(t, 0, MOST_NOTED_BALL) || !isHit(h) || !within(g, 0, MOST_G)) {
            return refuse(BAD);
        }
        if (now.notes.isFull()) {
            return refuse(FULL);
        }
        now.notes.put(t);
        now.notes.put(h);
        now.notes.put(g);
        return now.notes.size();
    }

    public int mark(int i, int l, int g, int x) {
        if (!isBatter(i) || !within(l, 1, MOST_LEGS)
                || !within(g, 0, MOST_G) || !within(x, 0, MOST_MARKED_POSTS)) {
            return refuse(BAD);
        }
        if (now.marks.isFull()) {
            return refuse(FULL);
        }
        now.marks.put(i);
        now.marks.put(l);
        now.marks.put(g);
        now.marks.put(x);
        return now.marks.size();
    }

    public int forget(int what) {
        if (!within(what, 0, 1)) {
            return refuse(BAD);
        }
        Rows rows = what == 0 ? now.notes : now.marks;
        int before = rows.size();
        rows.empty();
        return before;
    }

    public int is() {
        int bits = 0;
        for (int kind = 0; kind < KINDS; kind++) {
            if (fitsNotes(kind)) {
                bits |= 1 << kind;
            }
        }
        return bits;
    }

    public int look() {
        int bits = is();
        int best = NONE;
        int fewest = KINDS + 1;
        for (int place = 0; place < LOOKS && bits != 0; place++) {
            for (int kind = 0; kind < KINDS; kind++) {
                seen[kind] = hitWorth(kind, place % 10, place / 10);
            }
            int alike = mostAlike(bits);
            if (alike < fewest) {
                fewest = alike;
                best = place;
            }
        }
        return best;
    }

    public int kinds(int i) {
        if (!isBatter(i)) {
            return refuse(BAD);
        }
        return battersThatFit(i);
    }

    public int ask(int i) {
        if (!isBatter(i)) {
            return refuse(BAD);
        }
        int bits = battersThatFit(i);
        int best = NONE;
        int fewest = KINDS + 1;
        for (int g = 1; g <= MOST_G && bits != 0; g++) {
            for (int kind = 0; kind < KINDS; kind++) {
                seen[kind] = postsRun(kind, now.play.legs[i], g);
            }
            int alike = mostAlike(bits);
            if (alike < fewest) {
                fewest = alike;
                best = g;
            }
        }
        return best;
    }

    public int captains(int k) {
        if (k < NONE) {
            refuse(BAD);
            return BAD_LIST;
        }
        fillGains();
        int found = 0;
        for (int i = 0; i < now.play.size; i++) {
            for (int j = 0; j < KINDS; j++) {
                if (rests(i, j)) {
                    if (found == k) {
                        return 10 * i + j;
                    }
                    found++;
                }
            }
        }
        return k < 0 ? found : NOT_SO_MANY;
    }

    public int days(int seed, int n) {
        if (!within(seed, 0, MOST_SEED) || !within(n, 0, MOST_DAYS)) {
            return refuse(BAD);
        }
        trial.copy(now.play);
        long x = seed;
        int gain = 0;
        for (int day = 0; day < n && !trial.isDone(); day++) {
            x = (x * 1103515245L + 12345L) % 2147483648L;
            gain += trial.ball((int) (x / 65536L % 10L));
        }
        return gain;
    }

    // ---- what there is

    public long part(int what) {
        if (!within(what, 0, 1)) {
            return refuse(BAD);
        }
        return what == 0 ? above : below;
    }

    public int image(int i) {
        if (!isImage(i)) {
            return refuse(BAD);
        }
        if (images[i] == null) {
            images[i] = new Field();
        }
        images[i].copy(now);
        return 1;
    }

    public int from(int i) {
        if (!isImage(i)) {
            return refuse(BAD);
        }
        if (images[i] == null) {
            return refuse(NO);
        }
        now.copy(images[i]);
        return 1;
    }

    public int status(int what) {
        if (!within(what, 0, 2)) {
            refuse(BAD);
            return -1;
        }
        return refusals[what];
    }

    public int count(int what) {
        switch (what) {
            case 0: return now.play.size;
            case 1: return now.play.howManyAt(WAITS, WAITS);
            case 2: return now.play.howManyAt(1, HOME - 1);
            case 3: return now.play.howManyAt(OUT, OUT);
            case 4: return now.play.next;
            case 5: return now.play.points;
            case 6: return now.play.balls;
            case 7: return now.play.bowler;
            case 8: return now.notes.size();
            case 9: return now.marks.size();
            case 10: return now.past.size();
            case 11: return textLength;
            default: return refuse(BAD);
        }
    }

    public long digest() {
        long h = 1873;
        for (int what = 0; what < COUNTS; what++) {
            h = 31 * h + count(what);
        }
        for (int i = 0; i < now.play.size; i++) {
            for (int what = 0; what <= 2; what++) {
                h = 31 * h + now.play.told(i, what);
            }
        }
        for (int k = 0; k < ROW_HITS; k++) {
            h = 31 * h + now.rowHits[k];
        }
        h = now.marks.digestFrom(now.notes.digestFrom(h));
        return 31 * (31 * h + above) + below;
    }

    // ---- what a call is given, and how it is refused

    private static boolean within(int value, int least, int most) {
        return value >= least && value <= most;
    }

    private static boolean isKind(int kind) {
        return within(kind, 0, KINDS - 1);
    }

    private static boolean isHit(int h) {
        return within(h, 0, MOST_HIT);
    }

    private static boolean isImage(int i) {
        return within(i, 0, IMAGES - 1);
    }

    private boolean isBatter(int i) {
        return within(i, 0, now.play.size - 1);
    }

    /** Counts a refusal; BAD, NO and FULL follow one another downwards. */
    private int refuse(int why) {
        int place = BAD - why;
        if (within(place, 0, 2)) {
            refusals[place]++;
        }
        return why;
    }

    // ---- the kinds

    /** What a hit comes to by a kind of bowler and a ball's number. */
    private static int hitWorth(int kind, int h, int t) {
        int fast = Math.max(0, h - 1);
        int slow = t % 2 == 0 ? h : h + 1;
        switch (kind) {
            case 1: return fast;
            case 2: return slow;
            case 3: return t % 4 == 0 ? 0 : h;
            case 4: return h >= 7 ? fast - 2 : fast;
            case 5: return slow + Math.min(3, t / 20);
            default: return h;
        }
    }

    /** How many posts a kind of batter runs with these legs by what the hit comes to. */
    private static int postsRun(int kind, int legs, int g) {
        int plain = Math.min(4, (g + legs) / 3);
        int timid = Math.min(1, plain);
        int quick = plain + 1;
        switch (kind) {
            case 1: return g >= 6 ? plain + 1 : plain;
            case 2: return timid;
            case 3: return quick;
            case 4: return quick + 1;
            case 5: return g % 2 == 0 ? timid : 0;
            default: return plain;
        }
    }

    // ---- how it would go

    /** Points of the row's first n hits, if this one bats against this kind of bowler. */
    private int scoreAgainst(int kind, int next, int n) {
        trial.copy(now.play);
        trial.bowler = kind;
        trial.next = next;
        return trial.playHits(now.rowHits, n);
    }

    /** Leaves in bestTurn the first order with the greatest score, which it answers. */
    private int findBestTurn(int n) {
        int size = now.play.size;
        int most = -1;
        for (int i = 0; i < MOST_BATTERS; i++) {
            turn[i] = i;
        }
        for (int tried = 0; tried < ORDERS; tried++) {
            trial.lineUp(now.play, turn);
            int gain = trial.playHits(now.rowHits, n);
            if (gain > most) {
                most = gain;
                System.arraycopy(turn, 0, bestTurn, 0, MOST_BATTERS);
            }
            if (!riseTurn(size)) {
                break;
            }
        }
        return most;
    }

    /** Makes of turn's first ones the next order, rising; false: it was the last. */
    private boolean riseTurn(int size) {
        int low = size - 2;
        while (low >= 0 && turn[low] > turn[low + 1]) {
            low--;
        }
        if (low < 0) {
            return false;
        }
        int high = size - 1;
        while (high > low && turn[high] < turn[low]) {
            high--;
        }
        swapTurn(low, high);
        int left = low + 1;
        int right = size - 1;
        while (left < right) {
            swapTurn(left, right);
            left++;
            right--;
        }
        return true;
    }

    private void swapTurn(int a, int b) {
        int kept = turn[a];
        turn[a] = turn[b];
        turn[b] = kept;
    }

    private void fillGains() {
        for (int i = 0; i < now.play.size; i++) {
            for (int j = 0; j < KINDS; j++) {
                if (now.play.where[i] == WAITS) {
                    gains[i][j] = scoreAgainst(j, i, CAPTAINS_BALLS);
                }
            }
        }
    }

    private boolean rests(int i, int j) {
        if (now.play.where[i] != WAITS) {
            return false;
        }
        int gain = gains[i][j];
        for (int other = 0; other < now.play.size; other++) {
            if (now.play.where[other] == WAITS && gains[other][j] > gain) {
                return false;
            }
        }
        for (int kind = 0; kind < KINDS; kind++) {
            if (gains[i][kind] < gain) {
                return false;
            }
        }
        return true;
    }

    private void keepFraction(long newAbove, long newBelow) {
        long divisor = commonDivisor(newAbove, newBelow);
        if (divisor < 1) {
            divisor = 1;
        }
        above = newAbove / divisor;
        below = newBelow / divisor;
    }

    private static long commonDivisor(long a, long b) {
        for (int step = 0; step < 100 && b != 0; step++) {
            long rest = a % b;
            a = b;
            b = rest;
        }
        return a;
    }

    // ---- what was seen

    private boolean fitsNotes(int kind) {
        for (int k = 0; k < now.notes.size(); k++) {
            int t = now.notes.cell(k, 0);
            int h = now.notes.cell(k, 1);
            if (hitWorth(kind, h, t) != now.notes.cell(k, 2)) {
                return false;
            }
        }
        return true;
    }

    private int battersThatFit(int i) {
        int bits = 0;
        for (int kind = 0; kind < KINDS; kind++) {
            if (fitsMarks(i, kind)) {
                bits |= 1 << kind;
            }
        }
        return bits;
    }

    private boolean fitsMarks(int i, int kind) {
        for (int k = 0; k < now.marks.size(); k++) {
            int legs = now.marks.cell(k, 1);
            int g = now.marks.cell(k, 2);
            if (now.marks.cell(k, 0) == i && postsRun(kind, legs, g) != now.marks.cell(k, 3)) {
                return false;
            }
        }
        return true;
    }

    /** How many of these kinds, at most, have one and the same number in seen. */
    private int mostAlike(int bits) {
        int most = 0;
        for (int a = 0; a < KINDS; a++) {
            int alike = 0;
            for (int b = 0; b < KINDS; b++) {
                if ((bits >> a & 1) == 1 && (bits >> b & 1) == 1 && seen[a] == seen[b]) {
                    alike++;
                }
            }
            most = Math.max(most, alike);
        }
        return most;
    }

    /** A bowler, the batters, and how it stands. */
    private static final class Play {
        int bowler;
        int size;
        final int[] kind = new int[MOST_BATTERS];
        final int[] legs = new int[MOST_BATTERS];
        final int[] where = new int[MOST_BATTERS];
        int next = NONE;
        int points;
        int balls;

        void begin(int newBowler) {
            bowler = newBowler;
            size = 0;
            next = NONE;
            points = 0;
            balls = 0;
        }

        void copy(Play other) {
            bowler = other.bowler;
            size = other.size;
            next = other.next;
            points = other.points;
            balls = other.balls;
            System.arraycopy(other.kind, 0, kind, 0, MOST_BATTERS);
            System.arraycopy(other.legs, 0, legs, 0, MOST_BATTERS);
            System.arraycopy(other.where, 0, where, 0, MOST_BATTERS);
        }

        /** Takes another play's batters in this order, all waiting, against its bowler now. */
        void lineUp(Play other, int[] order) {
            begin(other.bowler);
            balls = other.balls;
            for (int k = 0; k < other.size && k < order.length; k++) {
                int i = order[k];
                if (within(i, 0, other.size - 1)) {
                    join(other.kind[i], other.legs[i]);
                }
            }
        }

        int join(int newKind, int newLegs) {
            if (size >= MOST_BATTERS) {
                return NONE;
            }
            int i = size;
            kind[i] = newKind;
            legs[i] = newLegs;
            where[i] = WAITS;
            size++;
            if (next < 0) {
                next = i;
            }
            return i;
        }

        boolean isDone() {
            return next < 0 || next >= size;
        }

        int told(int i, int what) {
            if (!within(i, 0, size - 1)) {
                return NONE;
            }
            if (what == 0) {
                return kind[i];
            }
            return what == 1 ? legs[i] : where[i];
        }

        int howManyAt(int least, int most) {
            int found = 0;
            for (int i = 0; i < size; i++) {
                if (within(where[i], least, most)) {
                    found++;
                }
            }
            return found;
        }

        int comesTo(int h) {
            return hitWorth(bowler, h, balls + 1);
        }

        /** How many posts the next one would run; NONE: it is done, or that one is out. */
        int postsBy(int h) {
            if (isDone()) {
                return NONE;
            }
            int g = hitWorth(bowler, h, balls + 1);
            return g == 0 ? NONE : postsRun(kind[next], legs[next], g);
        }

        int ball(int h) {
            return runBall(postsBy(h));
        }

        /** A ball by which the next one runs so many posts (NONE: is out): the points. */
        int runBall(int posts) {
            if (isDone()) {
                return 0;
            }
            balls++;
            int gain = 0;
            if (posts < 0) {
                where[next] = OUT;
            } else if (posts > 0) {
                gain = runAll(posts);
            }
            points += gain;
            passBat();
            return gain;
        }

        private int runAll(int posts) {
            int gain = 0;
            for (int i = 0; i < size; i++) {
                if (within(where[i], 1, HOME - 1)) {
                    where[i] += posts;
                    if (where[i] >= HOME) {
                        where[i] = WAITS;
                        gain++;
                    }
                }
            }
            if (posts >= HOME) {
                return gain + 2;
            }
            where[next] = posts;
            return gain;
        }

        private void passBat() {
            int i = next;
            for (int step = 0; step < size; step++) {
                i = i + 1 < size ? i + 1 : 0;
                if (where[i] == WAITS) {
                    next = i;
                    return;
                }
            }
            next = NONE;
        }

        int playHits(int[] hitRow, int n) {
            int gain = 0;
            for (int k = 0; k < n && k < hitRow.length && !isDone(); k++) {
                gain += runBall(postsBy(hitRow[k]));
            }
            return gain;
        }
    }

    /** Rows of numbers, one behind the other, all of one width. */
    private static final class Rows {
        private final int width;
        private final int[] cells;
        private int used;

        Rows(int width, int most) {
            this.width = Math.max(1, width);
            this.cells = new int[this.width * Math.max(0, most)];
        }

        int size() {
            return width < 1 ? 0 : used / width;
        }

        boolean isFull() {
            return used + width > cells.length;
        }

        void empty() {
            used = 0;
        }

        void put(int value) {
            if (used < cells.length) {
                cells[used] = value;
                used++;
            }
        }

        int cell(int row, int column) {
            int place = row * width + column;
            return place >= 0 && place < used ? cells[place] : 0;
        }

        void dropFirst() {
            if (used >= width) {
                used -= width;
                System.arraycopy(cells, width, cells, 0, used);
            }
        }

        void dropLast() {
            used = Math.max(0, used - width);
        }

        void copy(Rows other) {
            used = Math.min(other.used, cells.length);
            System.arraycopy(other.cells, 0, cells, 0, used);
        }

        long digestFrom(long h) {
            for (int k = 0; k < used; k++) {
                h = 31 * h + cells[k];
            }
            return h;
        }
    }

    /** All that an image keeps. */
    private static final class Field {
        final Play play = new Play();
        final int[] rowHits = new int[ROW_HITS];
        final Rows notes = new Rows(NOTE_WIDTH, MOST_SEEN);
        final Rows marks = new Rows(MARK_WIDTH, MOST_SEEN);
        final Rows past = new Rows(MOMENT_WIDTH, MOST_UNDONE);

        Field() {
            Arrays.fill(rowHits, FIRST_HIT);
        }

        void begin(int bowler) {
            play.begin(bowler);
            Arrays.fill(rowHits, FIRST_HIT);
            notes.empty();
            marks.empty();
            past.empty();
        }

        void copy(Field other) {
            play.copy(other.play);
            System.arraycopy(other.rowHits, 0, rowHits, 0, ROW_HITS);
            notes.copy(other.notes);
            marks.copy(other.marks);
            past.copy(other.past);
        }

        /** Keeps how it stands; the oldest one goes when there's no room left. */
        void remember() {
            if (past.isFull()) {
                past.dropFirst();
            }
            for (int i = 0; i < MOST_BATTERS; i++) {
                past.put(play.where[i]);
            }
            past.put(play.next);
            past.put(play.points);
            past.put(play.balls);
        }

        void goBack() {
            int last = past.size() - 1;
            if (last < 0) {
                return;
            }
            for (int i = 0; i < MOST_BATTERS; i++) {
                play.where[i] = past.cell(last, i);
            }
            play.next = past.cell(last, MOST_BATTERS);
            play.points = past.cell(last, MOST_BATTERS + 1);
            play.balls = past.cell(last, MOST_BATTERS + 2);
            past.dropLast();
        }
    }

    /** In how many of all rows of hits so many points are made. */
    private static final class Chances {
        private final Play[] levels = new Play[RANDOM_BALLS + 1];
        private final int[][] ways = new int[RANDOM_BALLS + 1][WAYS];
        private final int[] cases = new int[MOST_GAIN + 1];

        Chances() {
            for (int left = 0; left <= RANDOM_BALLS; left++) {
                levels[left] = new Play();
            }
        }

        void spread(Play start, int n) {
            Arrays.fill(cases, 0);
            if (within(n, 0, RANDOM_BALLS)) {
                levels[n].copy(start);
                spreadLevel(this, n, 0, 1);
            }
        }

        /** Hits by which as many posts are run end alike, so they are gone through once. */
        private static void spreadLevel(Chances all, int left, int gain, int weight) {
            if (!within(left, 0, RANDOM_BALLS)) {
                return;
            }
            Play here = all.levels[left];
            if (left == 0 || here.isDone()) {
                all.cases[Math.min(MOST_GAIN, gain)] += weight * TENS[left];
                return;
            }
            int[] hitsOfWays = all.ways[left];
            fillWays(here, hitsOfWays);
            Play then = all.levels[left - 1];
            for (int way = 0; way < WAYS; way++) {
                if (hitsOfWays[way] > 0) {
                    then.copy(here);
                    int more = then.runBall(way - 1);
                    spreadLevel(all, left - 1, gain + more, weight * hitsOfWays[way]);
                }
            }
        }

        /** Way 0 is out, way 1 no post, and the last is home: farther makes no difference. */
        private static void fillWays(Play here, int[] hitsOfWays) {
            Arrays.fill(hitsOfWays, 0);
            for (int h = 0; h <= MOST_HIT; h++) {
                int way = 1 + Math.min(HOME, here.postsBy(h));
                if (within(way, 0, hitsOfWays.length - 1)) {
                    hitsOfWays[way]++;
                }
            }
        }

        int casesFrom(int x) {
            int sum = 0;
            for (int gain = Math.max(0, x); gain <= MOST_GAIN; gain++) {
                sum += cases[gain];
            }
            return sum;
        }

        int sumOfGains() {
            int sum = 0;
            for (int gain = 0; gain <= MOST_GAIN; gain++) {
                sum += gain * cases[gain];
            }
            return sum;
        }
    }

    /** Reads a field from a text; it stands on one token and knows where that begins. */
    private static final class Reader {
        private static final int END = 0, WORD = 1, NUMBER = 2, STOP = 3, WRONG = 4;

        final Play play = new Play();
        private int[] bytes = new int[0];
        private int length;
        private int behind;
        private int start;
        private int token;
        private int value;

        /** How many items there are, or FAULT_BASE less the fault. */
        int readText(int[] newBytes, int newLength) {
            bytes = newBytes;
            length = Math.min(newLength, newBytes.length);
            behind = 0;
            play.begin(0);
            step();
            if (!readBowler() || !takeStop()) {
                return FAULT_BASE - start;
            }
            int items = 1;
            while (token != END && items <= length) {
                if (!readItem() || !takeStop()) {
                    return FAULT_BASE - start;
                }
                items++;
            }
            return items;
        }

        private boolean readBowler() {
            if (!takeWord("field") || !isNumber(0, KINDS - 1)) {
                return false;
            }
            play.bowler = value;
            step();
            return true;
        }

        private boolean readItem() {
            if (play.size < MOST_BATTERS && takeWord("batter")) {
                return readBatter();
            }
            return takeWord("ball") && readHits();
        }

        private boolean readBatter() {
            if (!isNumber(0, KINDS - 1)) {
                return false;
            }
            int kind = value;
            step();
            if (!isNumber(1, MOST_LEGS)) {
                return false;
            }
            play.join(kind, value);
            step();
            return true;
        }

        private boolean readHits() {
            int found = 0;
            while (found < ITEM_HITS && !play.isDone() && isNumber(0, MOST_HIT)) {
                play.ball(value);
                found++;
                step();
            }
            return found > 0;
        }

        private boolean isNumber(int least, int most) {
            return token == NUMBER && within(value, least, most);
        }

        private boolean takeStop() {
            if (token != STOP) {
                return false;
            }
            step();
            return true;
        }

        private boolean takeWord(String word) {
            if (token != WORD || behind - start != word.length()) {
                return false;
            }
            for (int k = 0; k < word.length(); k++) {
                if (byteAt(start + k) != word.charAt(k)) {
                    return false;
                }
            }
            step();
            return true;
        }

        private int byteAt(int place) {
            return place >= 0 && place < length ? bytes[place] : NONE;
        }

        private void step() {
            while (behind < length && byteAt(behind) == ' ') {
                behind++;
            }
            start = behind;
            int first = byteAt(start);
            if (first == NONE) {
                token = END;
            } else if (isLetter(first)) {
                token = WORD;
                passLetters();
            } else if (isFigure(first)) {
                passFigures();
                token = behind - start <= 2 ? NUMBER : WRONG;
            } else {
                token = first == ';' ? STOP : WRONG;
                behind++;
            }
        }

        private void passLetters() {
            while (behind < length && isLetter(byteAt(behind))) {
                behind++;
            }
        }

        private void passFigures() {
            value = 0;
            while (behind < length && isFigure(byteAt(behind))) {
                value = 10 * value + byteAt(behind) - '0';
                behind++;
            }
        }

        private static boolean isLetter(int c) {
            return c >= 'a' && c <= 'z';
        }

        private static boolean isFigure(int c) {
            return c >= '0' && c <= '9';
        }
    }
}
