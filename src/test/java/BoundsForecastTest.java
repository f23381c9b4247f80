/** Boundary cases of promises 14 to 19 and of the terms they stand on, each sentence by itself. */
public final class BoundsForecastTest {
    private static final Check CHECK = new Check("BoundsForecastTest");
    private static final int HOME_BY_ANY_HIT = 4;

    public static void main(String[] args) {
        scoreOfNoBalls();
        scoreOfAllEight();
        scoreFewerWhenDone();
        scoreFromNowOn();
        ballsAndPointsGoBeyond();
        orderOfNobody();
        orderOfOne();
        orderNotSoMany();
        orderFirstOfLikeOnes();
        orderLastOfAll();
        orderRoundAndRound();
        orderAllWait();
        orderFromNowOn();
        orderByTryingAll();
        againstEachKind();
        againstLeastOfLikeOnes();
        againstWhenDone();
        againstOneAndEightBalls();
        againstByTryingAll();
        chanceOfNone();
        chanceInNoBalls();
        chanceOrAbove();
        chanceOfTwenty();
        chanceWhenDone();
        chanceDoneInBetween();
        meanOfNoneToFour();
        fractionInLowestTerms();
        fractionStaysWhenRefused();
        sendByHowManyBalls();
        sendLeastOfLikeOnes();
        sendFirstAndLast();
        sendOnlyWhoWaits();
        sendNone();
        CHECK.end();
    }

    private static PostRounders with(int... kindsAndLegs) {
        PostRounders x = new PostRounders();
        Check.batters(x, kindsAndLegs);
        return x;
    }

    private static void fraction(String call, PostRounders x, long above, long below) {
        CHECK.due(call + ", part(0)", x.part(0), above);
        CHECK.due(call + ", part(1)", x.part(1), below);
    }

    /** "SCORE for n (0 .. 8)": nothing behind no balls. */
    private static void scoreOfNoBalls() {
        CHECK.due("14 score(0), nobody", new PostRounders().score(0), 0);
        CHECK.due("14 score(0)", with(HOME_BY_ANY_HIT, 5).score(0), 0);
        PostRounders x = with(HOME_BY_ANY_HIT, 5);
        x.hits(9);
        CHECK.due("14 score(0), points there", x.score(0), 0);
    }

    /** "with the first n HITS of THE ROW": the n-th counts, what is behind it does not. */
    private static void scoreOfAllEight() {
        for (int n = 1; n <= 8; n++) {
            PostRounders x = with(HOME_BY_ANY_HIT, 5);
            CHECK.due("14 score(" + n + ")", x.score(n), 2 * n);
            x.row(n - 1, 0);
            CHECK.due("14 score(" + n + "), the n-th hit 0", x.score(n), 2 * n - 2);
            CHECK.due("14 score(" + (n - 1) + ") does not see it", x.score(n - 1), 2 * n - 2);
        }
    }

    /** "(fewer, if it is DONE)". */
    private static void scoreFewerWhenDone() {
        PostRounders x = with(HOME_BY_ANY_HIT, 5);
        x.row(2, 0);
        for (int n = 2; n <= 8; n++) {
            CHECK.due("14 score(" + n + "), out by the third", x.score(n), 4);
        }
        x.hits(0);
        for (int n = 0; n <= 8; n++) {
            CHECK.due("14 score(" + n + "), done", x.score(n), 0);
            CHECK.due("14 score(" + n + "), nobody", new PostRounders().score(n), 0);
        }
    }

    /** "from now on": NEXT, who is on posts, the number of the ball. */
    private static void scoreFromNowOn() {
        PostRounders x = with(2, 5, 4, 5, 2, 5);
        CHECK.due("14 score(1)", x.score(1), 0);
        x.hits(5);
        CHECK.due("14 score(1), one on post 1, a greedy one bats", x.score(1), 3);
        x.sends(2);
        CHECK.due("14 score(1), a timid one is sent in", x.score(1), 0);
        CHECK.due("14 score(2), both come home by the greedy one", x.score(2), 4);
        PostRounders y = with(HOME_BY_ANY_HIT, 5);
        y.bowler(3);
        y.hits(9);
        y.hits(9);
        CHECK.due("14 score(1), ball 3 by a spinner", y.score(1), 2);
        CHECK.due("14 score(8), out by ball 4", y.score(8), 2);
        y.hits(9);
        CHECK.due("14 score(8), ball 4 by a spinner", y.score(8), 0);
    }

    /** "BALLS, POINTS go beyond 9999 in them." */
    private static void ballsAndPointsGoBeyond() {
        PostRounders x = with(HOME_BY_ANY_HIT, 5);
        for (int ball = 1; ball <= 9999; ball++) {
            x.hits(9);
        }
        CHECK.due("14 count(5)", x.count(5), 9999);
        CHECK.due("14 count(6)", x.count(6), 9999);
        CHECK.due("14 score(1)", x.score(1), 2);
        CHECK.due("14 score(8)", x.score(8), 16);
        CHECK.due("15 order(8, -1)", x.order(8, -1), 16);
        CHECK.due("15 order(8, 0)", x.order(8, 0), 0);
        // ball 10000 comes to nothing by a spinner
        CHECK.due("16 against(1, 0)", x.against(1, 0), 3);
        CHECK.due("16 against(8, 1)", x.against(8, 1), 0);
        x.chance(4, 8);
        fraction("17 chance(4, 8)", x, 6561, 10000);
        x.mean(1);
        fraction("18 mean(1)", x, 9, 5);
        CHECK.due("19 send(3)", x.send(3), 0);
        CHECK.due("27 captains(-1)", x.captains(-1), 1);
        CHECK.due("27 captains(0)", x.captains(0), 3);
        CHECK.that("28 days(5, 60)", x.days(5, 60) > 0);
        CHECK.due("14 count(6) stays", x.count(6), 9999);
    }

    /** "(.. none: nobody is there)". */
    private static void orderOfNobody() {
        PostRounders x = new PostRounders();
        for (int n = 1; n <= 8; n++) {
            CHECK.due("15 order(" + n + ", -1), nobody", x.order(n, -1), 0);
            CHECK.due("15 order(" + n + ", 0), nobody", x.order(n, 0), -5);
        }
        CHECK.due("15 status(0)", x.status(0), 0);
    }

    private static void orderOfOne() {
        PostRounders x = with(HOME_BY_ANY_HIT, 5);
        for (int n = 1; n <= 8; n++) {
            CHECK.due("15 order(" + n + ", -1), one", x.order(n, -1), 2 * n);
            CHECK.due("15 order(" + n + ", 0), one", x.order(n, 0), 0);
            CHECK.due("15 order(" + n + ", 1), one", x.order(n, 1), -5);
        }
    }

    /** "-5: not so many": the k-th of as many as there are is the last. */
    private static void orderNotSoMany() {
        PostRounders x = new PostRounders();
        for (int size = 1; size <= 6; size++) {
            x.batter(0, 1);
            CHECK.due("15 order(3, " + (size - 1) + "), " + size + " there", x.order(3, size - 1), size - 1);
            CHECK.due("15 order(3, " + size + "), " + size + " there", x.order(3, size), -5);
        }
    }

    /** "in the first such order (rising ..)". */
    private static void orderFirstOfLikeOnes() {
        PostRounders x = with(3, 5, 3, 5, 3, 5, 3, 5, 3, 5, 3, 5);
        for (int k = 0; k < 6; k++) {
            CHECK.due("15 order(8, " + k + "), all alike", x.order(8, k), k);
        }
        PostRounders y = with(0, 1, 0, 1, HOME_BY_ANY_HIT, 5, HOME_BY_ANY_HIT, 5);
        int[] due = {2, 0, 1, 3};
        for (int k = 0; k < 4; k++) {
            CHECK.due("15 order(1, " + k + "), two as good", y.order(1, k), due[k]);
        }
    }

    /** The 720th order of six is looked at as well. */
    private static void orderLastOfAll() {
        PostRounders x = with(4, 5, 3, 3, 5, 3, 0, 3, 0, 5, 2, 5);
        x.bowler(2);
        Check.row(x, 0, 7, 8, 4, 5, 2);
        CHECK.due("15 order(6, -1)", x.order(6, -1), 10);
        for (int k = 0; k < 6; k++) {
            CHECK.due("15 order(6, " + k + "), the last of all", x.order(6, k), 5 - k);
        }
    }

    /** "they bat by this order, round and round, in place of numbers". */
    private static void orderRoundAndRound() {
        // the timid one, home by the greedy one's hit: 3 each two balls, and it begins again
        PostRounders x = with(4, 5, 2, 5);
        CHECK.due("15 order(2, -1)", x.order(2, -1), 3);
        CHECK.due("15 order(2, 0)", x.order(2, 0), 1);
        CHECK.due("15 order(8, -1)", x.order(8, -1), 12);
        CHECK.due("15 order(8, 0)", x.order(8, 0), 1);
        CHECK.due("15 order(7, -1): the greedy one first", x.order(7, -1), 11);
        CHECK.due("15 order(7, 0)", x.order(7, 0), 0);
    }

    /** "all BATTERS, all WAITING, none on POSTS": also those who are out or on posts now, and when it is DONE. */
    private static void orderAllWait() {
        PostRounders x = with(4, 5, 2, 5);
        x.hits(0);
        x.hits(9);
        CHECK.due("15 count(4), done", x.count(4), -1);
        CHECK.due("15 order(2, -1)", x.order(2, -1), 3);
        CHECK.due("15 order(2, 0)", x.order(2, 0), 1);
        CHECK.due("15 order(2, 1)", x.order(2, 1), 0);
        CHECK.due("14 score(2) none the less", x.score(2), 0);
    }

    /** "from now on" holds for ORDER, too: the balls' numbers go on, and the bowler is the one there is. */
    private static void orderFromNowOn() {
        PostRounders x = with(HOME_BY_ANY_HIT, 5, 0, 1);
        // the plain one first, home by the greedy one's hit: 0, 3, 0, 3
        CHECK.due("15 order(4, -1), a plain bowler", x.order(4, -1), 6);
        x.bowler(3);
        CHECK.due("15 order(1, -1), ball 1 by a spinner", x.order(1, -1), 2);
        x.hits(9);
        x.sends(0);
        x.hits(9);
        x.sends(0);
        x.hits(9);
        CHECK.due("15 count(6)", x.count(6), 3);
        CHECK.due("15 order(1, -1), ball 4 by a spinner", x.order(1, -1), 0);
        CHECK.due("15 order(1, 0): all like, the first", x.order(1, 0), 0);
        // ball 4 puts out whoever bats by it: best the plain one
        CHECK.due("15 order(2, -1), balls 4 and 5", x.order(2, -1), 2);
        CHECK.due("15 order(2, 0), balls 4 and 5", x.order(2, 0), 1);
        CHECK.due("15 order(8, -1), out by ball 8", x.order(8, -1), 6);
    }

    /** As many objects as there are orders, with their batters in that order: SCORE of each. */
    private static void orderByTryingAll() {
        int[][] sides = {{2, 1, 4, 2, 3, 3, 0, 4, 1, 5}, {5, 5, 2, 4, 0, 3, 1, 2, 4, 1, 3, 1}, {1, 4, 2, 2, 3, 1}};
        for (int s = 0; s < sides.length; s++) {
            for (int n = 1; n <= 8; n++) {
                tryAll(sides[s], (s + n) % 6, n);
            }
        }
    }

    private static void tryAll(int[] side, int bowler, int n) {
        int size = side.length / 2;
        int[] order = new int[size];
        int[] best = new int[size];
        int most = -1;
        for (int i = 0; i < size; i++) {
            order[i] = i;
        }
        boolean more = true;
        while (more) {
            PostRounders x = new PostRounders();
            x.field(bowler);
            Check.row(x, 3, 9, 0, 6, 1, 8, 4, 7);
            for (int i : order) {
                x.batter(side[2 * i], side[2 * i + 1]);
            }
            if (x.score(n) > most) {
                most = x.score(n);
                best = order.clone();
            }
            more = rise(order);
        }
        PostRounders x = new PostRounders();
        x.field(bowler);
        Check.row(x, 3, 9, 0, 6, 1, 8, 4, 7);
        Check.batters(x, side);
        CHECK.due("15 order(" + n + ", -1) of all", x.order(n, -1), most);
        for (int k = 0; k < size; k++) {
            CHECK.due("15 order(" + n + ", " + k + ") of all", x.order(n, k), best[k]);
        }
    }

    /** The next order by counting up in base ten: slow, but unlike what the class does. */
    private static boolean rise(int[] order) {
        long value = 0;
        long end = 1;
        for (int i : order) {
            value = value * 10 + i;
            end *= 10;
        }
        for (value++; value < end; value++) {
            long rest = value;
            int seen = 0;
            for (int k = order.length - 1; k >= 0; k--) {
                order[k] = (int) (rest % 10);
                rest /= 10;
                seen |= order[k] < order.length ? 1 << order[k] : 0;
            }
            if (seen == (1 << order.length) - 1) {
                return true;
            }
        }
        return false;
    }

    private static void against(PostRounders x, int n, int kind, int much) {
        CHECK.due("16 against(" + n + ", 0)", x.against(n, 0), kind);
        CHECK.due("16 against(" + n + ", 1)", x.against(n, 1), much);
    }

    /** "the KIND of BOWLERS by which the SCORE is least": each of the six, the first and the last too. */
    private static void againstEachKind() {
        PostRounders lazy = with(5, 3);
        lazy.row(0, 6);
        against(lazy, 1, 0, 0);
        PostRounders plain = with(0, 5);
        plain.row(0, 7);
        against(plain, 1, 1, 0);
        // 0 comes to 1 by a slow one: the plain one comes home by the greedy one's hit, but bats the last
        PostRounders two = with(0, 2, 4, 5);
        Check.row(two, 0, 8, 2);
        against(two, 3, 2, 3);
        against(with(HOME_BY_ANY_HIT, 5), 4, 3, 6);
        PostRounders slogger = with(1, 3);
        slogger.row(0, 8);
        against(slogger, 1, 4, 0);
        // ball 40 comes to 2 by a tired one alone: the lazy one is not out, and bats in the greedy one's place
        PostRounders late = with(HOME_BY_ANY_HIT, 5);
        for (int ball = 1; ball <= 38; ball++) {
            late.hits(9);
        }
        late.batter(5, 3);
        Check.row(late, 4, 0, 2, 6);
        against(late, 4, 5, 5);
    }

    /** "of like ones the least". */
    private static void againstLeastOfLikeOnes() {
        PostRounders x = with(HOME_BY_ANY_HIT, 5);
        against(x, 3, 0, 6);
        x.bowler(5);
        against(x, 3, 0, 6);
        // nothing by a fast one and by a demon
        x.row(0, 1);
        against(x, 1, 1, 0);
        against(with(0, 1), 8, 0, 0);
    }

    private static void againstWhenDone() {
        against(new PostRounders(), 8, 0, 0);
        PostRounders x = with(HOME_BY_ANY_HIT, 5);
        x.hits(0);
        against(x, 8, 0, 0);
    }

    /** "BOWLER for n (1 .. 8)". */
    private static void againstOneAndEightBalls() {
        PostRounders x = with(HOME_BY_ANY_HIT, 5);
        x.row(7, 1);
        against(x, 1, 0, 2);
        against(x, 8, 3, 6);
    }

    /** The same as SCORE under each bowler, in each field, for each n. */
    private static void againstByTryingAll() {
        for (int f = 0; f < Fields.ALL.length; f++) {
            for (int n = 1; n <= 8; n++) {
                int best = 0;
                int least = Integer.MAX_VALUE;
                for (int kind = 0; kind <= 5; kind++) {
                    PostRounders x = Fields.ALL[f].make();
                    x.bowler(kind);
                    if (x.score(n) < least) {
                        least = x.score(n);
                        best = kind;
                    }
                }
                against(Fields.ALL[f].make(), n, best, least);
            }
        }
    }

    /** "CHANCE of x (0 .. 20)": of none it is 1, in however many balls, also when nobody is there. */
    private static void chanceOfNone() {
        for (int n = 0; n <= 4; n++) {
            for (int f = 0; f < Fields.ALL.length; f++) {
                PostRounders x = Fields.ALL[f].make();
                CHECK.due("17 chance(" + n + ", 0)", x.chance(n, 0), 1);
                fraction("17 chance(" + n + ", 0) in field " + f, x, 1, 1);
            }
        }
    }

    /** "in n (0 .. 4) BALLS": in none there is no more than none. */
    private static void chanceInNoBalls() {
        for (int p = 1; p <= 20; p++) {
            PostRounders x = with(HOME_BY_ANY_HIT, 5);
            CHECK.due("17 chance(0, " + p + ")", x.chance(0, p), 1);
            fraction("17 chance(0, " + p + ")", x, 0, 1);
        }
    }

    /** "that POINTS are x more or above": the greedy one's 2 by each hit but 0. */
    private static void chanceOrAbove() {
        long[] above = {1, 9, 81, 729, 6561};
        long[] below = {1, 10, 100, 1000, 10000};
        PostRounders x = with(HOME_BY_ANY_HIT, 5);
        for (int n = 1; n <= 4; n++) {
            for (int p = 1; p <= 20; p++) {
                CHECK.due("17 chance(" + n + ", " + p + ")", x.chance(n, p), 1);
                int needed = (p + 1) / 2;
                boolean can = needed <= n;
                fraction("17 chance(" + n + ", " + p + ")", x, can ? above[needed] : 0, can ? below[needed] : 1);
            }
        }
    }

    private static void chanceOfTwenty() {
        PostRounders x = with(2, 5, 2, 5, 2, 5, 4, 5, 4, 5, 4, 5);
        x.hits(5);
        x.hits(5);
        x.hits(5);
        // three come home with the first greedy one that hits, 5; and 2 by each of the others; then a timid one
        x.chance(3, 9);
        fraction("17 chance(3, 9)", x, 729, 1000);
        x.chance(4, 9);
        fraction("17 chance(4, 9)", x, 729, 1000);
        x.chance(4, 10);
        fraction("17 chance(4, 10)", x, 0, 1);
        CHECK.due("17 chance(4, 20)", x.chance(4, 20), 1);
        fraction("17 chance(4, 20)", x, 0, 1);
        CHECK.due("17 chance(4, 21)", x.chance(4, 21), -2);
    }

    /** "(when it is DONE, BALLS count, nothing is done)". */
    private static void chanceWhenDone() {
        PostRounders x = with(HOME_BY_ANY_HIT, 5);
        x.hits(0);
        for (int n = 0; n <= 4; n++) {
            x.chance(n, 1);
            fraction("17 chance(" + n + ", 1), done", x, 0, 1);
            x.chance(n, 0);
            fraction("17 chance(" + n + ", 0), done", x, 1, 1);
            x.mean(n);
            fraction("18 mean(" + n + "), done", x, 0, 1);
        }
        PostRounders nobody = new PostRounders();
        nobody.mean(4);
        fraction("18 mean(4), nobody", nobody, 0, 1);
    }

    /** Rows of hits that are DONE before their end weigh as much as others. */
    private static void chanceDoneInBetween() {
        // by 7, 8, 9 home; by 1 .. 6 on a post for good, by 0 out
        PostRounders x = with(0, 5);
        x.chance(4, 1);
        fraction("17 chance(4, 1)", x, 3, 10);
        x.chance(4, 3);
        fraction("17 chance(4, 3)", x, 9, 100);
        x.chance(4, 8);
        fraction("17 chance(4, 8)", x, 81, 10000);
    }

    /** "MEAN in n (0 .. 4) BALLS". */
    private static void meanOfNoneToFour() {
        PostRounders x = with(HOME_BY_ANY_HIT, 5);
        long[] above = {0, 9, 171, 2439, 30951};
        long[] below = {1, 5, 50, 500, 5000};
        for (int n = 0; n <= 4; n++) {
            CHECK.due("18 mean(" + n + ")", x.mean(n), 1);
            fraction("18 mean(" + n + ")", x, above[n], below[n]);
        }
    }

    /** "lowest terms, below above 0". */
    private static void fractionInLowestTerms() {
        PostRounders x = with(3, 5);
        x.chance(1, 2);
        fraction("17 six of ten", x, 3, 5);
        x.chance(1, 3);
        fraction("17 none of ten", x, 0, 1);
        x.chance(1, 0);
        fraction("17 ten of ten", x, 1, 1);
        x.mean(1);
        fraction("18 twelve of ten", x, 6, 5);
        // a plain one with legs 1 is home by no hit: nothing at all
        PostRounders y = with(0, 1);
        y.mean(4);
        fraction("18 nothing", y, 0, 1);
    }

    private static void fractionStaysWhenRefused() {
        PostRounders x = with(3, 5);
        x.chance(1, 2);
        x.chance(5, 2);
        x.chance(-1, 2);
        x.chance(1, 21);
        x.chance(1, -1);
        x.mean(5);
        x.mean(-1);
        fraction("17 refused", x, 3, 5);
        CHECK.due("17 status(0)", x.status(0), 6);
    }

    /** "SEND for n (1 .. 3): .. so that the MEAN in n BALLS is greatest". */
    private static void sendByHowManyBalls() {
        PostRounders x = with(2, 5, 4, 5);
        x.mean(2);
        fraction("18 mean(2), the timid one first", x, 261, 100);
        x.mean(3);
        fraction("18 mean(3), the timid one first", x, 693, 250);
        CHECK.due("19 send(1)", x.send(1), 1);
        CHECK.due("19 send(2)", x.send(2), 0);
        CHECK.due("19 send(3)", x.send(3), 1);
        x.sends(1);
        x.mean(2);
        fraction("18 mean(2), the greedy one first", x, 9, 5);
        x.mean(3);
        fraction("18 mean(3), the greedy one first", x, 4149, 1000);
        CHECK.due("19 send(1), whoever is NEXT", x.send(1), 1);
        CHECK.due("19 send(2), whoever is NEXT", x.send(2), 0);
        CHECK.due("19 send(3), whoever is NEXT", x.send(3), 1);
        fraction("19 the fraction stays", x, 4149, 1000);
    }

    /** "of like ones the least". */
    private static void sendLeastOfLikeOnes() {
        PostRounders x = with(4, 5, 4, 5, 4, 5);
        x.sends(2);
        for (int n = 1; n <= 3; n++) {
            CHECK.due("19 send(" + n + "), all alike", x.send(n), 0);
        }
        PostRounders none = with(0, 1, 0, 1);
        CHECK.due("19 send(1), no points by any", none.send(1), 0);
    }

    private static void sendFirstAndLast() {
        PostRounders last = with(0, 1, 0, 1, 0, 1, 0, 1, 0, 1, 4, 5);
        CHECK.due("19 send(1), the last", last.send(1), 5);
        PostRounders first = with(4, 5, 0, 1, 0, 1, 0, 1, 0, 1, 0, 1);
        first.sends(5);
        CHECK.due("19 send(1), the first", first.send(1), 0);
    }

    /** "whom, of those that WAIT". */
    private static void sendOnlyWhoWaits() {
        PostRounders x = with(4, 5, 3, 5, 0, 1);
        CHECK.due("19 send(1)", x.send(1), 0);
        x.hits(0);
        CHECK.due("19 send(1), the best is out", x.send(1), 1);
        x.hits(1);
        CHECK.due("19 of(1, 2): on a post", x.of(1, 2), 3);
        CHECK.due("19 send(1), one is on a post", x.send(1), 2);
    }

    /** "none": nobody waits. */
    private static void sendNone() {
        PostRounders x = with(0, 1);
        x.hits(2);
        for (int n = 1; n <= 3; n++) {
            CHECK.due("19 send(" + n + "), nobody", new PostRounders().send(n), -1);
            CHECK.due("19 send(" + n + "), done", x.send(n), -1);
        }
        CHECK.due("19 status(1)", x.status(1), 0);
    }
}
