/** Boundary cases of promises 8 to 13 and of the kinds and balls they stand on, each sentence by itself. */
public final class BoundsBallsTest {
    private static final Check CHECK = new Check("BoundsBallsTest");

    public static void main(String[] args) {
        plainBowler();
        fastIsNothingAtLeast();
        slowByOddBalls();
        spinnerByEachFourth();
        demonFromSeven();
        tiredThreeMoreAtMost();
        plainIsCutAndFourAtMost();
        sloggerFromSix();
        timidOneAtMost();
        quickOneMore();
        greedyTwoMore();
        lazyByOdd();
        numberIsOneMore();
        outByNothing();
        outWhereverOneCouldRun();
        noPostAllStay();
        runnersGoOn();
        homeAtPostFour();
        homeBeyondPostFour();
        notHomeAtPostThree();
        ownHitAllTheWay();
        homeWaitsAgain();
        nextRoundAndRound();
        nextItselfTheLast();
        nextIsOneThatCameHome();
        doneWhenNoneWaits();
        oneAtMostOnEachPost();
        ballsAndPointsAtMost();
        sendsTellsWhoWasNext();
        sendsGoesOnBehindThatOne();
        rowFirstAndLast();
        undoEightAtMost();
        undoBackFromDone();
        undoWhoWasSent();
        undoLeavesAllElse();
        refusedIsNotToBeUndone();
        ofEachPlace();
        worthOfOutAndDone();
        CHECK.end();
    }

    /** A field where ball t is the next one, by this kind of bowler. */
    private static PostRounders atBall(int kind, int t) {
        PostRounders x = new PostRounders();
        x.batter(4, 5);
        for (int ball = 1; ball < t; ball++) {
            x.hits(9);
        }
        x.bowler(kind);
        return x;
    }

    private static void comesTo(int kind, int t, int h, int due) {
        CHECK.due("13 worth(" + h + ", 0) by bowler " + kind + ", ball " + t, atBall(kind, t).worth(h, 0), due);
    }

    /** By a mark of so many posts the kind may be, by one more or less it may not. */
    private static void runs(int kind, int l, int g, int due) {
        PostRounders x = new PostRounders();
        x.batter(0, 1);
        for (int posts = Math.max(0, due - 1); posts <= due + 1; posts++) {
            x.forget(1);
            x.mark(0, l, g, posts);
            CHECK.due("25 kind " + kind + " runs " + posts + " by " + g + " with legs " + l,
                    x.kinds(0) >> kind & 1, posts == due ? 1 : 0);
        }
        if (g >= 1 && g <= 9) {
            x.field(0);
            x.batter(kind, l);
            CHECK.due("13 worth(" + g + ", 1) of kind " + kind + " with legs " + l, x.worth(g, 1), due);
        }
    }

    /** "0 PLAIN: h." */
    private static void plainBowler() {
        for (int h = 0; h <= 9; h++) {
            comesTo(0, 1, h, h);
            comesTo(0, 4, h, h);
            comesTo(0, 20, h, h);
        }
    }

    /** "1 FAST: 1 less than PLAIN, 0 at least." */
    private static void fastIsNothingAtLeast() {
        comesTo(1, 1, 0, 0);
        comesTo(1, 1, 1, 0);
        comesTo(1, 1, 2, 1);
        comesTo(1, 1, 9, 8);
        comesTo(1, 4, 9, 8);
        PostRounders x = atBall(1, 1);
        x.hits(1);
        CHECK.due("8 out by a fast one", x.of(0, 2), 4);
    }

    /** "2 SLOW: PLAIN, 1 more, if t is an odd number." */
    private static void slowByOddBalls() {
        comesTo(2, 1, 0, 1);
        comesTo(2, 1, 9, 10);
        comesTo(2, 2, 0, 0);
        comesTo(2, 2, 9, 9);
        comesTo(2, 3, 5, 6);
        comesTo(2, 100, 5, 5);
        comesTo(2, 101, 5, 6);
    }

    /** "3 SPINNER: PLAIN, but 0, if 4 divides t", which it does with 0 as well. */
    private static void spinnerByEachFourth() {
        for (int t = 1; t <= 12; t++) {
            comesTo(3, t, 0, 0);
            comesTo(3, t, 1, t % 4 == 0 ? 0 : 1);
            comesTo(3, t, 9, t % 4 == 0 ? 0 : 9);
        }
        PostRounders x = new PostRounders();
        x.note(0, 9, 0);
        CHECK.due("23 a spinner by ball 0", x.is(), 8);
    }

    /** "4 DEMON: FAST, 2 less, if h is 7 or more." */
    private static void demonFromSeven() {
        comesTo(4, 1, 0, 0);
        comesTo(4, 1, 1, 0);
        comesTo(4, 1, 6, 5);
        comesTo(4, 1, 7, 4);
        comesTo(4, 1, 8, 5);
        comesTo(4, 1, 9, 6);
        comesTo(4, 4, 7, 4);
    }

    /** "5 TIRED: SLOW, and t by 20 (cut), 3 more at most." */
    private static void tiredThreeMoreAtMost() {
        comesTo(5, 1, 0, 1);
        comesTo(5, 2, 0, 0);
        comesTo(5, 19, 4, 5);
        comesTo(5, 20, 4, 5);
        comesTo(5, 21, 4, 6);
        comesTo(5, 39, 4, 6);
        comesTo(5, 40, 4, 6);
        comesTo(5, 59, 4, 7);
        comesTo(5, 60, 4, 7);
        comesTo(5, 79, 4, 8);
        comesTo(5, 80, 4, 7);
        comesTo(5, 81, 9, 13);
        comesTo(5, 100, 0, 3);
        comesTo(5, 101, 9, 13);
    }

    /** "0 PLAIN: a third (cut) of g and l together, 4 at most." */
    private static void plainIsCutAndFourAtMost() {
        runs(0, 1, 0, 0);
        runs(0, 1, 1, 0);
        runs(0, 1, 2, 1);
        runs(0, 1, 4, 1);
        runs(0, 1, 5, 2);
        runs(0, 3, 0, 1);
        runs(0, 5, 6, 3);
        runs(0, 5, 7, 4);
        runs(0, 5, 9, 4);
        runs(0, 5, 10, 4);
        runs(0, 1, 10, 3);
        runs(0, 1, 11, 4);
        runs(0, 5, 20, 4);
    }

    /** "1 SLOGGER: PLAIN, 1 more, if g is 6 or more." */
    private static void sloggerFromSix() {
        runs(1, 1, 5, 2);
        runs(1, 1, 6, 3);
        runs(1, 1, 1, 0);
        runs(1, 5, 5, 3);
        runs(1, 5, 6, 4);
        runs(1, 5, 7, 5);
        runs(1, 5, 20, 5);
    }

    /** "2 TIMID: PLAIN, 1 at most." */
    private static void timidOneAtMost() {
        runs(2, 1, 1, 0);
        runs(2, 1, 2, 1);
        runs(2, 1, 5, 1);
        runs(2, 5, 20, 1);
    }

    /** "3 QUICK: 1 more than PLAIN", also than its 4 at most. */
    private static void quickOneMore() {
        runs(3, 1, 0, 1);
        runs(3, 1, 1, 1);
        runs(3, 1, 2, 2);
        runs(3, 5, 7, 5);
        runs(3, 5, 20, 5);
    }

    /** "4 GREEDY: 1 more than QUICK." */
    private static void greedyTwoMore() {
        runs(4, 1, 0, 2);
        runs(4, 1, 1, 2);
        runs(4, 1, 2, 3);
        runs(4, 5, 9, 6);
        runs(4, 5, 20, 6);
    }

    /** "5 LAZY: as TIMID, but 0, if g is an odd number." */
    private static void lazyByOdd() {
        runs(5, 1, 0, 0);
        runs(5, 3, 0, 1);
        runs(5, 5, 1, 0);
        runs(5, 1, 2, 1);
        runs(5, 5, 9, 0);
        runs(5, 5, 19, 0);
        runs(5, 5, 20, 1);
    }

    /** "its number is one more; g is what the HIT comes to by that number": the first ball is ball 1. */
    private static void numberIsOneMore() {
        PostRounders x = atBall(2, 1);
        CHECK.due("8 hits(0) by a slow one, ball 1", x.hits(0), 2);
        CHECK.due("8 count(6)", x.count(6), 1);
        CHECK.due("8 hits(0) by a slow one, ball 2", x.hits(0), 0);
        CHECK.due("8 of(0, 2): out", x.of(0, 2), 4);
        PostRounders y = atBall(3, 3);
        CHECK.due("8 hits(9) by a spinner, ball 3", y.hits(9), 2);
        CHECK.due("8 hits(9) by a spinner, ball 4", y.hits(9), 0);
        CHECK.due("8 of(0, 2): out", y.of(0, 2), 4);
        CHECK.due("8 count(6) counts it", y.count(6), 4);
    }

    /** Batter 0 on post 1, batter 1 bats. */
    private static PostRounders oneOnPostOne(int kind, int legs) {
        PostRounders x = new PostRounders();
        Check.batters(x, 2, 5, kind, legs);
        x.hits(5);
        return x;
    }

    /** "If g is 0, NEXT is OUT": nobody runs. */
    private static void outByNothing() {
        PostRounders x = oneOnPostOne(0, 5);
        CHECK.due("8 hits(0)", x.hits(0), 0);
        CHECK.due("8 of(0, 2) stays", x.of(0, 2), 1);
        CHECK.due("8 of(1, 2): out", x.of(1, 2), 4);
        CHECK.due("8 count(3)", x.count(3), 1);
        CHECK.due("8 count(5)", x.count(5), 0);
    }

    /** A greedy one runs two posts even by nothing; but who hits nothing is OUT. */
    private static void outWhereverOneCouldRun() {
        for (int kind = 0; kind <= 5; kind++) {
            for (int legs = 1; legs <= 5; legs++) {
                PostRounders x = oneOnPostOne(kind, legs);
                CHECK.due("8 hits(0) of kind " + kind, x.hits(0), 0);
                CHECK.due("8 of(1, 2) of kind " + kind, x.of(1, 2), 4);
                CHECK.due("8 of(0, 2) stays", x.of(0, 2), 1);
            }
        }
    }

    /** "(n 0: all stay)": NEXT waits on, who is on a post stays there, the ball counts. */
    private static void noPostAllStay() {
        PostRounders x = oneOnPostOne(0, 1);
        CHECK.due("8 hits(1)", x.hits(1), 0);
        CHECK.due("8 of(0, 2)", x.of(0, 2), 1);
        CHECK.due("8 of(1, 2)", x.of(1, 2), 0);
        CHECK.due("8 count(6)", x.count(6), 2);
        CHECK.due("8 count(3)", x.count(3), 0);
        PostRounders lazy = oneOnPostOne(5, 5);
        lazy.hits(9);
        CHECK.due("8 of(0, 2), a lazy one", lazy.of(0, 2), 1);
        CHECK.due("8 of(1, 2), a lazy one", lazy.of(1, 2), 0);
    }

    /** "all who are on POSTS go n POSTS on, and NEXT goes to POST n". */
    private static void runnersGoOn() {
        PostRounders x = new PostRounders();
        Check.batters(x, 2, 5, 2, 5, 2, 5, 0, 1);
        x.hits(5);
        CHECK.due("8 of(0, 2)", x.of(0, 2), 1);
        x.hits(5);
        CHECK.due("8 of(0, 2)", x.of(0, 2), 2);
        CHECK.due("8 of(1, 2)", x.of(1, 2), 1);
        x.hits(5);
        CHECK.due("8 of(0, 2)", x.of(0, 2), 3);
        CHECK.due("8 of(1, 2)", x.of(1, 2), 2);
        CHECK.due("8 of(2, 2)", x.of(2, 2), 1);
        CHECK.due("8 hits(5): two posts, two come home", x.hits(5), 2);
        CHECK.due("8 of(0, 2)", x.of(0, 2), 0);
        CHECK.due("8 of(1, 2)", x.of(1, 2), 0);
        CHECK.due("8 of(2, 2)", x.of(2, 2), 3);
        CHECK.due("8 of(3, 2)", x.of(3, 2), 2);
    }

    /** "who comes to POST 4 .. is home: POINTS are 1 more". */
    private static void homeAtPostFour() {
        PostRounders x = oneOnPostOne(0, 1);
        CHECK.due("8 hits(8): three posts from post 1", x.hits(8), 1);
        CHECK.due("8 of(0, 2)", x.of(0, 2), 0);
        CHECK.due("8 of(1, 2)", x.of(1, 2), 3);
        CHECK.due("8 count(5)", x.count(5), 1);
    }

    /** ".. or beyond": from post 3 by two posts, from post 1 by six. */
    private static void homeBeyondPostFour() {
        PostRounders x = new PostRounders();
        Check.batters(x, 0, 1, 0, 1);
        x.hits(9);
        CHECK.due("8 of(0, 2)", x.of(0, 2), 3);
        CHECK.due("8 hits(5): two posts from post 3", x.hits(5), 1);
        CHECK.due("8 of(0, 2)", x.of(0, 2), 0);
        PostRounders y = oneOnPostOne(4, 5);
        CHECK.due("8 hits(9): six posts", y.hits(9), 3);
        CHECK.due("8 of(0, 2)", y.of(0, 2), 0);
        CHECK.due("8 of(1, 2)", y.of(1, 2), 0);
    }

    private static void notHomeAtPostThree() {
        PostRounders x = oneOnPostOne(0, 1);
        CHECK.due("8 hits(5): two posts from post 1", x.hits(5), 0);
        CHECK.due("8 of(0, 2)", x.of(0, 2), 3);
        PostRounders y = new PostRounders();
        Check.batters(y, 0, 1);
        CHECK.due("8 hits(9): three posts", y.hits(9), 0);
        CHECK.due("8 of(0, 2)", y.of(0, 2), 3);
        CHECK.due("8 count(5)", y.count(5), 0);
    }

    /** "for NEXT 2 more": by four posts, by five and by six; with runners, theirs as well. */
    private static void ownHitAllTheWay() {
        int[][] kindsLegsHits = {{0, 5, 7}, {1, 5, 6}, {1, 5, 7}, {3, 5, 9}, {4, 5, 1}, {4, 5, 9}};
        int[] posts = {4, 4, 5, 5, 4, 6};
        for (int k = 0; k < posts.length; k++) {
            PostRounders x = new PostRounders();
            x.batter(kindsLegsHits[k][0], kindsLegsHits[k][1]);
            CHECK.due("13 worth(h, 1)", x.worth(kindsLegsHits[k][2], 1), posts[k]);
            CHECK.due("8 by " + posts[k] + " posts", x.hits(kindsLegsHits[k][2]), 2);
            CHECK.due("8 of(0, 2)", x.of(0, 2), 0);
        }
        PostRounders x = new PostRounders();
        Check.batters(x, 2, 5, 2, 5, 2, 5, 0, 5);
        x.hits(5);
        x.hits(5);
        x.hits(5);
        CHECK.due("8 three come home and NEXT", x.hits(7), 5);
        CHECK.due("8 count(1)", x.count(1), 4);
        CHECK.due("8 count(5)", x.count(5), 5);
    }

    /** "who is home WAITS again", and bats again. */
    private static void homeWaitsAgain() {
        PostRounders x = oneOnPostOne(0, 1);
        x.hits(8);
        CHECK.due("8 of(0, 2)", x.of(0, 2), 0);
        CHECK.due("8 count(1)", x.count(1), 1);
        CHECK.due("8 count(4)", x.count(4), 0);
        CHECK.due("8 hits(5), again", x.hits(5), 1);
        CHECK.due("8 of(0, 2)", x.of(0, 2), 1);
    }

    /** "NEXT becomes the first that WAITS behind it by numbers, round and round". */
    private static void nextRoundAndRound() {
        PostRounders x = new PostRounders();
        Check.batters(x, 0, 1, 0, 1, 0, 1, 0, 1, 0, 1, 0, 1);
        for (int ball = 1; ball <= 13; ball++) {
            x.hits(1);
            CHECK.due("8 count(4) behind ball " + ball, x.count(4), ball % 6);
        }
        x.hits(0);
        CHECK.due("8 count(4), 1 is out", x.count(4), 2);
        x.hits(2);
        x.hits(0);
        CHECK.due("8 count(4), 2 on a post, 3 out", x.count(4), 4);
        x.hits(1);
        x.hits(0);
        CHECK.due("8 count(4), 5 is out: round to 0", x.count(4), 0);
        x.hits(1);
        CHECK.due("8 count(4): past 1, 2, 3", x.count(4), 4);
        x.hits(1);
        CHECK.due("8 count(4): past 5", x.count(4), 0);
    }

    /** "(itself the last)": by no post, and when home. */
    private static void nextItselfTheLast() {
        PostRounders x = new PostRounders();
        Check.batters(x, 0, 1, 0, 1);
        x.hits(0);
        x.hits(1);
        CHECK.due("8 count(4), by no post", x.count(4), 1);
        PostRounders y = new PostRounders();
        Check.batters(y, 4, 5, 0, 1);
        y.hits(9);
        CHECK.due("8 count(4): another before itself", y.count(4), 1);
        y.hits(0);
        y.hits(9);
        CHECK.due("8 count(4), home", y.count(4), 0);
        PostRounders alone = new PostRounders();
        alone.batter(0, 1);
        alone.hits(1);
        CHECK.due("8 count(4), alone", alone.count(4), 0);
    }

    /** Who comes home by the ball waits when NEXT is looked for. */
    private static void nextIsOneThatCameHome() {
        PostRounders x = oneOnPostOne(0, 1);
        CHECK.due("8 count(1)", x.count(1), 1);
        x.hits(8);
        CHECK.due("8 count(4)", x.count(4), 0);
    }

    /** "if none WAITS, it is DONE (NEXT: none)": all on posts, all out, both. */
    private static void doneWhenNoneWaits() {
        PostRounders posts = new PostRounders();
        Check.batters(posts, 2, 5, 2, 5, 2, 5);
        posts.hits(5);
        posts.hits(5);
        CHECK.due("8 count(4), not yet", posts.count(4), 2);
        posts.hits(5);
        CHECK.due("8 count(4), three on posts", posts.count(4), -1);
        CHECK.due("8 count(2)", posts.count(2), 3);
        PostRounders out = new PostRounders();
        Check.batters(out, 4, 5, 4, 5);
        out.hits(0);
        CHECK.due("8 count(4), not yet", out.count(4), 1);
        out.hits(0);
        CHECK.due("8 count(4), all out", out.count(4), -1);
        PostRounders both = oneOnPostOne(0, 1);
        both.hits(0);
        CHECK.due("8 count(4), one out, one on a post", both.count(4), -1);
        CHECK.due("8 hits(9)", both.hits(9), -3);
        CHECK.due("8 count(6)", both.count(6), 2);
    }

    /** "is on a POST (1 .. 3; one at most on each)": in all rows of six hits of four sorts. */
    private static void oneAtMostOnEachPost() {
        int[] sorts = {0, 1, 4, 9};
        int[][] sides = {{0, 1, 2, 5, 3, 3, 4, 4, 1, 2, 5, 5}, {2, 5, 2, 5, 2, 5, 2, 5}, {3, 1, 0, 3, 5, 2}};
        for (int[] side : sides) {
            for (int code = 0; code < 4096; code++) {
                PostRounders x = new PostRounders();
                Check.batters(x, side);
                for (int k = 0; k < 6; k++) {
                    x.hits(sorts[code >> 2 * k & 3]);
                    checkPosts(x);
                }
            }
        }
    }

    private static void checkPosts(PostRounders x) {
        int[] on = new int[5];
        for (int i = 0; i < x.count(0); i++) {
            int where = x.of(i, 2);
            CHECK.that("12 of(i, 2) is 0 to 4", where >= 0 && where <= 4);
            on[Math.min(4, Math.max(0, where))]++;
        }
        CHECK.that("8 one at most on each post", on[1] <= 1 && on[2] <= 1 && on[3] <= 1);
        CHECK.due("33 count(1)", x.count(1), on[0]);
        CHECK.due("33 count(2)", x.count(2), on[1] + on[2] + on[3]);
        CHECK.due("33 count(3)", x.count(3), on[4]);
        CHECK.that("33 count(4) is none when nobody waits", x.count(4) == -1 == (on[0] == 0));
        CHECK.that("33 count(4) waits", x.count(4) == -1 || x.of(x.count(4), 2) == 0);
    }

    /** "POINTS (0 .. 9999 ..)", "BALLS .. (9999 at most)", "NO: .. BALLS are 9999". */
    private static void ballsAndPointsAtMost() {
        PostRounders x = atBall(0, 9999);
        CHECK.due("8 count(6)", x.count(6), 9998);
        CHECK.due("8 count(5)", x.count(5), 9999);
        CHECK.due("8 hits(9), ball 9999", x.hits(9), 0);
        CHECK.due("8 hits(9), ball 10000", x.hits(9), -3);
        CHECK.due("8 hits(10), ball 10000", x.hits(10), -2);
        CHECK.due("8 status(1)", x.status(1), 1);
        CHECK.due("8 count(6)", x.count(6), 9999);
        CHECK.due("8 count(5)", x.count(5), 9999);
        CHECK.due("13 worth(9, 0) goes on", x.worth(9, 0), 9);
    }

    /** "A BATTER is sent in: NEXT; who was NEXT." */
    private static void sendsTellsWhoWasNext() {
        PostRounders x = new PostRounders();
        Check.batters(x, 0, 1, 0, 1, 0, 1, 0, 1, 0, 1, 0, 1);
        CHECK.due("9 sends(5)", x.sends(5), 0);
        CHECK.due("9 count(4)", x.count(4), 5);
        CHECK.due("9 sends(5), is NEXT", x.sends(5), -3);
        CHECK.due("9 sends(0)", x.sends(0), 5);
        CHECK.due("9 sends(0), is NEXT", x.sends(0), -3);
        CHECK.due("9 sends(6)", x.sends(6), -2);
        CHECK.due("9 count(6): no ball", x.count(6), 0);
        CHECK.due("9 count(1): all wait", x.count(1), 6);
        CHECK.due("9 count(10)", x.count(10), 2);
    }

    /** Behind who was sent in it goes on by numbers from that one. */
    private static void sendsGoesOnBehindThatOne() {
        PostRounders x = new PostRounders();
        Check.batters(x, 0, 1, 0, 1, 0, 1, 0, 1);
        x.sends(3);
        x.hits(1);
        CHECK.due("9 count(4), behind the last", x.count(4), 0);
        x.sends(2);
        x.hits(0);
        CHECK.due("9 of(2, 2): that one batted", x.of(2, 2), 4);
        CHECK.due("9 count(4)", x.count(4), 3);
    }

    /** "THE ROW: 8 HITS (0 .. 9 ..)", "HIT k (0 .. 7) of THE ROW becomes h: what it was." */
    private static void rowFirstAndLast() {
        PostRounders x = new PostRounders();
        for (int k = 0; k <= 7; k++) {
            CHECK.due("10 row(" + k + ", 9)", x.row(k, 9), 5);
            CHECK.due("10 row(" + k + ", 0)", x.row(k, 0), 9);
            CHECK.due("10 row(" + k + ", k)", x.row(k, k), 0);
            x.row(k, 10);
            x.row(k, -1);
        }
        x.row(8, 9);
        x.row(-1, 9);
        for (int k = 0; k <= 7; k++) {
            CHECK.due("10 row(" + k + ", 0), no other became it", x.row(k, 0), k);
        }
        CHECK.due("10 count(10): not to be undone", x.count(10), 0);
    }

    /** "UNDO .. (8 at most ..)": the last eight, then none. */
    private static void undoEightAtMost() {
        for (int balls = 0; balls <= 12; balls++) {
            PostRounders x = new PostRounders();
            x.batter(4, 5);
            for (int ball = 0; ball < balls; ball++) {
                x.hits(9);
                CHECK.due("11 count(10) behind ball " + (ball + 1), x.count(10), Math.min(8, ball + 1));
            }
            for (int ball = balls - 1; ball >= Math.max(0, balls - 8); ball--) {
                CHECK.due("11 undo() of " + balls, x.undo(), ball);
                CHECK.due("11 count(5) of " + balls, x.count(5), 2 * ball);
                CHECK.due("11 count(10) of " + balls, x.count(10), ball - Math.max(0, balls - 8));
            }
            CHECK.due("11 undo() of " + balls + ", no more", x.undo(), -3);
            CHECK.due("11 count(6) stays", x.count(6), Math.max(0, balls - 8));
            CHECK.due("11 status(1)", x.status(1), 1);
        }
    }

    /** A ball by which it was DONE is undone, and NEXT bats again. */
    private static void undoBackFromDone() {
        PostRounders x = oneOnPostOne(0, 1);
        long before = x.digest();
        x.hits(0);
        CHECK.due("11 count(4), done", x.count(4), -1);
        CHECK.due("11 undo()", x.undo(), 1);
        CHECK.due("11 digest()", x.digest(), before);
        CHECK.due("11 of(1, 2)", x.of(1, 2), 0);
        CHECK.due("11 count(4)", x.count(4), 1);
        CHECK.due("11 hits(8)", x.hits(8), 1);
        CHECK.due("11 undo()", x.undo(), 1);
        CHECK.due("11 of(0, 2): on its post again", x.of(0, 2), 1);
        CHECK.due("11 count(5)", x.count(5), 0);
    }

    /** "BATTER sent in": NEXT as before, BALLS the same. */
    private static void undoWhoWasSent() {
        PostRounders x = new PostRounders();
        Check.batters(x, 0, 1, 0, 1, 0, 1);
        x.hits(1);
        x.sends(0);
        x.sends(2);
        CHECK.due("11 undo()", x.undo(), 1);
        CHECK.due("11 count(4)", x.count(4), 0);
        CHECK.due("11 undo()", x.undo(), 1);
        CHECK.due("11 count(4)", x.count(4), 1);
        CHECK.due("11 undo()", x.undo(), 0);
        CHECK.due("11 count(4)", x.count(4), 0);
        CHECK.due("11 undo()", x.undo(), -3);
        for (int k = 0; k < 9; k++) {
            x.sends(1 + k % 2);
        }
        CHECK.due("11 count(10), nine sent", x.count(10), 8);
    }

    /** The row, notes, marks, text and fraction are not undone. */
    private static void undoLeavesAllElse() {
        PostRounders x = new PostRounders();
        Check.batters(x, 0, 5, 0, 1);
        x.hits(7);
        x.row(0, 9);
        x.note(1, 1, 1);
        x.mark(1, 1, 1, 1);
        x.type(65);
        x.chance(1, 1);
        long above = x.part(0);
        long below = x.part(1);
        CHECK.due("11 undo()", x.undo(), 0);
        CHECK.due("11 row(0, 9)", x.row(0, 9), 9);
        CHECK.due("11 count(8)", x.count(8), 1);
        CHECK.due("11 count(9)", x.count(9), 1);
        CHECK.due("11 count(11)", x.count(11), 1);
        CHECK.due("11 part(0)", x.part(0), above);
        CHECK.due("11 part(1)", x.part(1), below);
    }

    private static void refusedIsNotToBeUndone() {
        PostRounders x = oneOnPostOne(0, 1);
        x.hits(10);
        x.sends(0);
        x.sends(1);
        x.sends(9);
        CHECK.due("11 count(10)", x.count(10), 1);
        x.hits(0);
        x.hits(5);
        x.sends(0);
        CHECK.due("11 count(10), done", x.count(10), 2);
    }

    /** "where one is (2: 0 WAITS, 1 to 3 on that POST, 4 OUT)". */
    private static void ofEachPlace() {
        PostRounders x = new PostRounders();
        Check.batters(x, 0, 1, 2, 5, 2, 5, 2, 5, 5, 4, 3, 3);
        x.hits(0);
        x.hits(5);
        x.hits(5);
        x.hits(5);
        int[] places = {4, 3, 2, 1, 0, 0};
        for (int i = 0; i < 6; i++) {
            CHECK.due("12 of(" + i + ", 2)", x.of(i, 2), places[i]);
        }
        CHECK.due("12 of(5, 0)", x.of(5, 0), 3);
        CHECK.due("12 of(5, 1)", x.of(5, 1), 3);
        CHECK.due("12 of(6, 0)", x.of(6, 0), -2);
        CHECK.due("12 of(5, 3)", x.of(5, 3), -2);
    }

    /** "how many POSTS NEXT would run by it (1; 0: OUT, DONE)". */
    private static void worthOfOutAndDone() {
        PostRounders x = new PostRounders();
        CHECK.due("13 worth(9, 0), nobody", x.worth(9, 0), 9);
        CHECK.due("13 worth(9, 1), nobody", x.worth(9, 1), 0);
        x.batter(4, 5);
        CHECK.due("13 worth(0, 1): out", x.worth(0, 1), 0);
        CHECK.due("13 worth(1, 1)", x.worth(1, 1), 4);
        x.bowler(1);
        CHECK.due("13 worth(1, 1): out by a fast one", x.worth(1, 1), 0);
        x.bowler(2);
        CHECK.due("13 worth(0, 1) by a slow one", x.worth(0, 1), 4);
        x.bowler(0);
        x.hits(0);
        CHECK.due("13 worth(9, 1), done", x.worth(9, 1), 0);
        CHECK.due("13 worth(9, 0), done", x.worth(9, 0), 9);
        CHECK.due("13 status(0)", x.status(0), 0);
    }
}
