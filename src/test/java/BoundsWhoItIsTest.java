import java.math.BigInteger;

/** Boundary cases of promises 20 to 28 and of the terms they stand on, each sentence by itself. */
public final class BoundsWhoItIsTest {
    private static final Check CHECK = new Check("BoundsWhoItIsTest");

    public static void main(String[] args) {
        sixNotes();
        noteEndsOfEachNumber();
        sixMarks();
        markEndsOfEachNumber();
        forgetOneSort();
        forgetHowMany();
        isWithoutNotes();
        isEachKindAlone();
        isAllNotes();
        lookAtFirst();
        lookLeastOfLikeOnes();
        lookFewest();
        lookNone();
        kindsWithoutMarks();
        kindsEachAlone();
        kindsOfOneAlone();
        kindsFirstAndLastBatter();
        askByLegsAsTheyAre();
        askBeginsWithOne();
        askFewest();
        askNone();
        captainsNobody();
        captainsAllPairs();
        captainsFirstFourHits();
        captainsOnlyWhoWait();
        captainsNoPair();
        captainsFewestByPlain();
        captainsByTryingAll();
        daysNone();
        daysUntilDone();
        daysFirstAndLastSeed();
        daysByPlaying();
        CHECK.end();
    }

    private static PostRounders with(int... kindsAndLegs) {
        PostRounders x = new PostRounders();
        Check.batters(x, kindsAndLegs);
        return x;
    }

    /** "NOTES 0 .. 5, as they come", "FULL: 6", and room again when they are forgotten. */
    private static void sixNotes() {
        PostRounders x = new PostRounders();
        for (int round = 0; round < 2; round++) {
            for (int k = 1; k <= 6; k++) {
                CHECK.due("20 note " + k, x.note(k, k, k), k);
                CHECK.due("20 count(8)", x.count(8), k);
            }
            CHECK.due("20 note 7", x.note(7, 7, 7), -4);
            CHECK.due("20 count(8)", x.count(8), 6);
            CHECK.due("20 is(): the seventh is not there", x.is() & 1, 1);
            CHECK.due("20 forget(0)", x.forget(0), 6);
        }
        CHECK.due("20 status(2)", x.status(2), 2);
    }

    /** "a HIT h by BALL t (0 .. 99) came to g (0 .. 20)". */
    private static void noteEndsOfEachNumber() {
        int[][] ends = {{0, 0, 0}, {99, 9, 20}, {0, 9, 20}, {99, 0, 0}};
        for (int[] e : ends) {
            CHECK.due("20 note at its ends", new PostRounders().note(e[0], e[1], e[2]), 1);
        }
        int[][] beyond = {{-1, 0, 0}, {100, 9, 20}, {0, -1, 0}, {99, 10, 20}, {0, 0, -1}, {99, 9, 21}};
        for (int[] b : beyond) {
            PostRounders x = new PostRounders();
            CHECK.due("20 note beyond its ends", x.note(b[0], b[1], b[2]), -2);
            CHECK.due("20 count(8)", x.count(8), 0);
        }
    }

    /** "MARKS 0 .. 5, as they come", "FULL: 6": six of all batters together. */
    private static void sixMarks() {
        PostRounders x = with(0, 1, 0, 1);
        for (int round = 0; round < 2; round++) {
            for (int k = 1; k <= 6; k++) {
                CHECK.due("21 mark " + k, x.mark(k % 2, 1, 2, 1), k);
                CHECK.due("21 count(9)", x.count(9), k);
            }
            CHECK.due("21 mark 7", x.mark(0, 1, 1, 9), -4);
            CHECK.due("21 mark 7, of the other", x.mark(1, 1, 1, 9), -4);
            CHECK.due("21 kinds(0): the seventh is not there", x.kinds(0) & 1, 1);
            CHECK.due("21 forget(1)", x.forget(1), 6);
        }
        CHECK.due("21 status(2)", x.status(2), 4);
    }

    /** "LEGS being l (1 .. 5), ran x POSTS (0 .. 9) by g (0 .. 20)". */
    private static void markEndsOfEachNumber() {
        int[][] ends = {{0, 1, 0, 0}, {1, 5, 20, 9}, {0, 5, 0, 9}, {1, 1, 20, 0}};
        for (int[] e : ends) {
            CHECK.due("21 mark at its ends", with(0, 1, 0, 1).mark(e[0], e[1], e[2], e[3]), 1);
        }
        int[][] beyond = {{-1, 1, 0, 0}, {2, 1, 0, 0}, {0, 0, 0, 0}, {0, 6, 0, 0}, {0, 1, -1, 0}, {0, 1, 21, 0},
            {0, 1, 0, -1}, {0, 1, 0, 10}};
        for (int[] b : beyond) {
            PostRounders x = with(0, 1, 0, 1);
            CHECK.due("21 mark beyond its ends", x.mark(b[0], b[1], b[2], b[3]), -2);
            CHECK.due("21 count(9)", x.count(9), 0);
        }
        CHECK.due("21 mark, nobody there", new PostRounders().mark(0, 1, 0, 0), -2);
    }

    /** "No NOTES (0), MARKS (1)": the others stay. */
    private static void forgetOneSort() {
        PostRounders x = with(0, 1);
        x.note(0, 9, 0);
        x.mark(0, 1, 5, 2);
        x.forget(0);
        CHECK.due("22 count(8)", x.count(8), 0);
        CHECK.due("22 is()", x.is(), 63);
        CHECK.due("22 count(9) stays", x.count(9), 1);
        CHECK.due("22 kinds(0) stays", x.kinds(0), 3);
        x.note(0, 9, 0);
        x.forget(1);
        CHECK.due("22 count(9)", x.count(9), 0);
        CHECK.due("22 kinds(0)", x.kinds(0), 63);
        CHECK.due("22 count(8) stays", x.count(8), 1);
        CHECK.due("22 is() stays", x.is(), 8);
        x.forget(2);
        x.forget(-1);
        CHECK.due("22 count(8), refused", x.count(8), 1);
    }

    /** "how many there were": none to six. */
    private static void forgetHowMany() {
        PostRounders x = with(0, 1);
        for (int many = 0; many <= 6; many++) {
            for (int k = 0; k < many; k++) {
                x.note(0, 0, 0);
                x.mark(0, 1, 0, 0);
            }
            CHECK.due("22 forget(0)", x.forget(0), many);
            CHECK.due("22 forget(0) again", x.forget(0), 0);
            CHECK.due("22 forget(1)", x.forget(1), many);
            CHECK.due("22 forget(1) again", x.forget(1), 0);
        }
    }

    /** "KINDS (bits) of BOWLERS by which all NOTES are so": without notes all six. */
    private static void isWithoutNotes() {
        for (int kind = 0; kind <= 5; kind++) {
            PostRounders x = new PostRounders();
            x.field(kind);
            CHECK.due("23 is() does not see THE BOWLER", x.is(), 63);
        }
    }

    /** Each bit by itself. */
    private static void isEachKindAlone() {
        int[][][] notes = {
            {{1, 5, 5}, {4, 5, 5}},
            {{1, 9, 8}},
            {{19, 5, 6}, {40, 5, 5}},
            {{4, 5, 0}},
            {{1, 9, 6}},
            {{60, 0, 3}},
        };
        for (int kind = 0; kind <= 5; kind++) {
            PostRounders x = new PostRounders();
            for (int[] n : notes[kind]) {
                x.note(n[0], n[1], n[2]);
            }
            CHECK.due("23 kind " + kind + " alone", x.is(), 1 << kind);
        }
    }

    /** "all NOTES": the sixth counts as the first does; none fits what nobody gives. */
    private static void isAllNotes() {
        PostRounders x = new PostRounders();
        for (int k = 0; k < 5; k++) {
            x.note(0, 0, 0);
        }
        CHECK.due("23 five that fit all", x.is(), 63);
        x.note(1, 0, 20);
        CHECK.due("23 the sixth fits none", x.is(), 0);
        PostRounders y = new PostRounders();
        y.note(1, 0, 20);
        y.note(0, 0, 0);
        CHECK.due("23 the first fits none", y.is(), 0);
        PostRounders z = new PostRounders();
        z.note(99, 9, 13);
        CHECK.due("23 the most that comes", z.is(), 32);
        z.forget(0);
        z.note(99, 9, 14);
        CHECK.due("23 more than comes", z.is(), 0);
    }

    /** "LOOK: 10 t and h (t 0 .. 9, h 0 .. 9)": ball 1, hit 1 tells the six apart two by two. */
    private static void lookAtFirst() {
        CHECK.due("24 look()", new PostRounders().look(), 11);
    }

    /** "of like ones the least": when nothing tells them apart, or there is but one, it is 0. */
    private static void lookLeastOfLikeOnes() {
        PostRounders one = new PostRounders();
        one.note(1, 9, 6);
        CHECK.due("24 look(), a demon alone", one.look(), 0);
        PostRounders two = new PostRounders();
        two.note(1, 9, 10);
        CHECK.due("24 is()", two.is(), 4 + 32);
        CHECK.due("24 look(), slow and tired are alike up to ball 9", two.look(), 0);
    }

    /** "by which the most of these KINDS by which it comes to as much are fewest". */
    private static void lookFewest() {
        int[][] notesIsLook = {
            {44, 0, 0, 31, 2},
            {98, 7, 7, 13, 1},
            {83, 6, 5, 18, 7},
            {8, 6, 6, 37, 10},
        };
        for (int[] n : notesIsLook) {
            PostRounders x = new PostRounders();
            x.note(n[0], n[1], n[2]);
            CHECK.due("24 is()", x.is(), n[3]);
            CHECK.due("24 look() of " + n[3], x.look(), n[4]);
        }
    }

    /** "none: no KIND". */
    private static void lookNone() {
        PostRounders x = new PostRounders();
        x.note(0, 0, 1);
        CHECK.due("24 is()", x.is(), 0);
        CHECK.due("24 look()", x.look(), -1);
        CHECK.due("24 status(1)", x.status(1), 0);
    }

    /** "WHAT: KINDS (bits) of BATTERS by which all MARKS of one are so": without marks all six. */
    private static void kindsWithoutMarks() {
        PostRounders x = with(0, 1, 1, 1, 2, 1, 3, 1, 4, 1, 5, 1);
        for (int i = 0; i <= 5; i++) {
            CHECK.due("25 kinds(" + i + ") does not see the KIND", x.kinds(i), 63);
        }
    }

    /** Each bit by itself. */
    private static void kindsEachAlone() {
        int[][][] marks = {
            {{1, 6, 2}},
            {{1, 5, 2}, {1, 6, 3}},
            {{1, 9, 1}},
            {{1, 1, 1}},
            {{5, 20, 6}},
            {{5, 6, 1}, {5, 7, 0}},
        };
        for (int kind = 0; kind <= 5; kind++) {
            PostRounders x = with(0, 1);
            for (int[] m : marks[kind]) {
                x.mark(0, m[0], m[1], m[2]);
            }
            CHECK.due("25 kind " + kind + " alone", x.kinds(0), 1 << kind);
        }
        PostRounders none = with(0, 1);
        none.mark(0, 5, 20, 7);
        CHECK.due("25 farther than any runs", none.kinds(0), 0);
    }

    /** "all MARKS of one": the others' marks say nothing, the sixth counts as the first does. */
    private static void kindsOfOneAlone() {
        PostRounders x = with(0, 1, 0, 1);
        x.mark(0, 1, 5, 2);
        for (int k = 0; k < 4; k++) {
            x.mark(1, 5, 20, 9);
        }
        CHECK.due("25 kinds(0)", x.kinds(0), 3);
        CHECK.due("25 kinds(1)", x.kinds(1), 0);
        x.mark(0, 1, 6, 3);
        CHECK.due("25 kinds(0), by the sixth", x.kinds(0), 2);
    }

    private static void kindsFirstAndLastBatter() {
        PostRounders x = with(0, 1, 0, 1, 0, 1, 0, 1, 0, 1, 0, 1);
        x.mark(5, 5, 20, 6);
        CHECK.due("25 kinds(5)", x.kinds(5), 16);
        CHECK.due("25 kinds(0)", x.kinds(0), 63);
        CHECK.due("25 kinds(6)", x.kinds(6), -2);
        CHECK.due("25 kinds(-1)", x.kinds(-1), -2);
    }

    /** "g (1 .. 20), LEGS as they are": not as they were in the marks. */
    private static void askByLegsAsTheyAre() {
        PostRounders x = with(0, 1, 0, 2, 0, 3, 0, 4, 0, 5);
        for (int i = 0; i < 5; i++) {
            CHECK.due("26 ask(" + i + ")", x.ask(i), 5 - i);
        }
        // timid or lazy: by 1 with legs 5 they run 1 and 0, with legs 1 first by 3
        PostRounders y = with(0, 5, 0, 1);
        y.mark(0, 1, 6, 1);
        y.mark(1, 1, 6, 1);
        CHECK.due("26 kinds(0)", y.kinds(0), 36);
        CHECK.due("26 ask(0), legs 5", y.ask(0), 1);
        CHECK.due("26 ask(1), legs 1", y.ask(1), 3);
    }

    /** "g (1 .. 20)": it does not ask by 0; "of like ones the least". */
    private static void askBeginsWithOne() {
        PostRounders x = with(0, 3, 0, 3);
        x.mark(0, 5, 20, 6);
        CHECK.due("26 ask(0), one kind", x.ask(0), 1);
        x.mark(1, 1, 1, 1);
        CHECK.due("26 ask(1), one kind", x.ask(1), 1);
    }

    /** "by which the most of these KINDS that run as far are fewest". */
    private static void askFewest() {
        PostRounders x = with(0, 1, 0, 2);
        x.mark(0, 1, 5, 2);
        CHECK.due("26 kinds(0)", x.kinds(0), 3);
        CHECK.due("26 ask(0): plain or slogger, from 6 on", x.ask(0), 6);
        x.forget(1);
        x.mark(1, 1, 0, 0);
        CHECK.due("26 kinds(1)", x.kinds(1), 39);
        // by 7 with legs 2: plain 3, slogger 4, timid 1, lazy 0
        CHECK.due("26 ask(1)", x.ask(1), 7);
    }

    /** "none: no KIND". */
    private static void askNone() {
        PostRounders x = with(0, 1, 0, 1);
        x.mark(0, 1, 0, 9);
        CHECK.due("26 ask(0)", x.ask(0), -1);
        CHECK.due("26 ask(1), another", x.ask(1), 5);
        CHECK.due("26 status(0)", x.status(0), 0);
    }

    private static void captainsNobody() {
        PostRounders x = new PostRounders();
        CHECK.due("27 captains(-1), nobody", x.captains(-1), 0);
        CHECK.due("27 captains(0), nobody", x.captains(0), -5);
        PostRounders done = with(4, 5);
        done.hits(0);
        CHECK.due("27 captains(-1), done", done.captains(-1), 0);
        CHECK.due("27 captains(0), done", done.captains(0), -5);
    }

    /** "pairs 10 i and j that rest ..: how many; the k-th (rising)", "-5: not so many". */
    private static void captainsAllPairs() {
        // by 0 and by 1 none of them comes to a post
        PostRounders x = with(0, 1, 0, 1, 0, 1, 0, 1, 0, 1, 0, 1);
        Check.row(x, 0, 0, 0, 0);
        CHECK.due("27 captains(-1)", x.captains(-1), 36);
        for (int k = 0; k < 36; k++) {
            CHECK.due("27 captains(" + k + ")", x.captains(k), 10 * (k / 6) + k % 6);
        }
        CHECK.due("27 captains(36)", x.captains(36), -5);
        CHECK.due("27 captains(-2)", x.captains(-2), -10);
        CHECK.due("27 status(0)", x.status(0), 1);
    }

    /** "the next 4 BALLS with the first 4 HITS of THE ROW": the fourth counts, the fifth does not. */
    private static void captainsFirstFourHits() {
        PostRounders x = with(4, 5);
        CHECK.due("27 captains(-1)", x.captains(-1), 1);
        CHECK.due("27 captains(0): out by ball 4", x.captains(0), 3);
        x.row(3, 1);
        CHECK.due("27 captains(-1), ball 4 by fast ones too", x.captains(-1), 3);
        CHECK.due("27 captains(0)", x.captains(0), 1);
        CHECK.due("27 captains(1)", x.captains(1), 3);
        CHECK.due("27 captains(2)", x.captains(2), 4);
        x.row(3, 5);
        x.row(4, 0);
        CHECK.due("27 captains(-1), the fifth hit 0", x.captains(-1), 1);
    }

    /** "a BATTER i that WAITS", "no other such BATTER". */
    private static void captainsOnlyWhoWait() {
        PostRounders x = with(4, 5, 0, 1, 2, 1);
        Check.row(x, 0, 0, 0, 0);
        x.hits(0);
        x.hits(2);
        CHECK.due("27 of(0, 2), out", x.of(0, 2), 4);
        CHECK.due("27 of(1, 2), on a post", x.of(1, 2), 1);
        CHECK.due("27 captains(-1): the third alone", x.captains(-1), 6);
        CHECK.due("27 captains(0)", x.captains(0), 20);
        CHECK.due("27 captains(5)", x.captains(5), 25);
        CHECK.due("27 captains(6)", x.captains(6), -5);
    }

    private static void captainsNoPair() {
        PostRounders x = with(1, 1, 2, 2, 3, 3, 4, 4, 5, 5, 0, 1);
        x.bowler(1);
        Check.row(x, 2, 7, 2, 7);
        CHECK.due("27 captains(-1)", x.captains(-1), 0);
        CHECK.due("27 captains(0)", x.captains(0), -5);
    }

    /** "no other KIND fewer against i": PLAIN, the first of them, is looked at as well. */
    private static void captainsFewestByPlain() {
        int[] due = {2, 3, 3, 4, 3, 3};
        for (int kind = 0; kind <= 5; kind++) {
            PostRounders x = fewestByPlain();
            x.sends(1);
            x.bowler(kind);
            CHECK.due("27 score(4) of batter 1 by bowler " + kind, x.score(4), due[kind]);
        }
        // nobody gets more than batter 1 against a demon, but a plain bowler would give fewer
        PostRounders x = fewestByPlain();
        CHECK.due("27 captains(-1): 14 does not rest", x.captains(-1), 0);
        CHECK.due("27 captains(0)", x.captains(0), -5);
    }

    private static PostRounders fewestByPlain() {
        PostRounders x = new PostRounders();
        Check.batters(x, 1, 5, 0, 4, 5, 2);
        x.hits(2);
        x.hits(9);
        Check.row(x, 0, 9, 9, 6);
        return x;
    }

    /** Each batter that waits sent in under each bowler, and SCORE looked at. */
    private static void captainsByTryingAll() {
        Fields.Make sixth = () -> {
            PostRounders x = Fields.MIDDLE.make();
            x.batter(3, 1);
            x.row(3, 8);
            return x;
        };
        for (Fields.Make make : new Fields.Make[] {Fields.MIDDLE, Fields.FULL, Fields.DONE, sixth}) {
            int[][] gains = new int[6][];
            for (int i = 0; i < make.make().count(0); i++) {
                if (make.make().of(i, 2) == 0) {
                    gains[i] = gainsOf(make, i);
                }
            }
            PostRounders x = make.make();
            int found = 0;
            for (int pair = 0; pair < 60; pair++) {
                if (rests(gains, pair / 10, pair % 10)) {
                    CHECK.due("27 captains(" + found + ") of all", x.captains(found), pair);
                    found++;
                }
            }
            CHECK.due("27 captains(-1) of all", x.captains(-1), found);
            CHECK.due("27 captains(" + found + ") of all", x.captains(found), -5);
        }
    }

    private static int[] gainsOf(Fields.Make make, int i) {
        int[] gains = new int[6];
        for (int kind = 0; kind <= 5; kind++) {
            PostRounders x = make.make();
            x.bowler(kind);
            x.sends(i);
            CHECK.due("27 count(4)", x.count(4), i);
            gains[kind] = x.score(4);
        }
        return gains;
    }

    private static boolean rests(int[][] gains, int i, int kind) {
        if (gains[i] == null || kind > 5) {
            return false;
        }
        for (int[] other : gains) {
            if (other != null && other[kind] > gains[i][kind]) {
                return false;
            }
        }
        for (int gain : gains[i]) {
            if (gain < gains[i][kind]) {
                return false;
            }
        }
        return true;
    }

    /** "n (0 .. 60)": no days, no points. */
    private static void daysNone() {
        CHECK.due("28 days(0, 0)", with(4, 5).days(0, 0), 0);
        CHECK.due("28 days(999999, 0)", with(4, 5).days(999999, 0), 0);
        CHECK.due("28 days(0, 60), nobody", new PostRounders().days(0, 60), 0);
    }

    /** "n times, until it is DONE": seed 0 begins with hit 0. */
    private static void daysUntilDone() {
        PostRounders x = with(4, 5);
        for (int n = 0; n <= 60; n++) {
            CHECK.due("28 days(0, " + n + "), out by the first", x.days(0, n), 0);
        }
        x.hits(0);
        CHECK.due("28 days(999999, 60), done", x.days(999999, 60), 0);
    }

    private static void daysFirstAndLastSeed() {
        PostRounders x = with(5, 5, 4, 5, 3, 5, 2, 1, 1, 1, 0, 1);
        x.bowler(5);
        CHECK.due("28 days(0, 60)", x.days(0, 60), 77);
        CHECK.due("28 days(999999, 60)", x.days(999999, 60), 78);
        CHECK.due("28 days(1000000, 60)", x.days(1000000, 60), -2);
        CHECK.due("28 days(-1, 60)", x.days(-1, 60), -2);
        CHECK.due("28 days(0, 61)", x.days(0, 61), -2);
        CHECK.due("28 days(0, -1)", x.days(0, -1), -2);
        CHECK.due("28 status(0)", x.status(0), 4);
    }

    /** The same hits, played: "X times 1103515245 and 12345, by 2147483648 what is left over". */
    private static void daysByPlaying() {
        for (int f = 0; f < Fields.ALL.length; f++) {
            for (int seed : new int[] {0, 1, 7, 65535, 65536, 500000, 999998, 999999}) {
                PostRounders played = Fields.ALL[f].make();
                PostRounders asked = Fields.ALL[f].make();
                int before = played.count(5);
                BigInteger value = BigInteger.valueOf(seed);
                for (int n = 0; n <= 60; n++) {
                    CHECK.due("28 days(" + seed + ", " + n + ") in field " + f, asked.days(seed, n),
                            played.count(5) - before);
                    value = value.multiply(BigInteger.valueOf(1103515245L)).add(BigInteger.valueOf(12345L))
                            .mod(BigInteger.valueOf(2147483648L));
                    played.hits(value.divide(BigInteger.valueOf(65536L)).mod(BigInteger.TEN).intValue());
                }
            }
        }
    }
}
