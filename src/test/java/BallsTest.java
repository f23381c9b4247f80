/** Promises 8 to 13: hits, sends, row, undo, of, worth. */
public final class BallsTest {
    private static final Check CHECK = new Check("BallsTest");

    public static void main(String[] args) {
        hits();
        homes();
        mostBalls();
        sends();
        row();
        undo();
        of();
        worthOfBowlers();
        worthOfBatters();
        CHECK.end();
    }

    private static void hits() {
        PostRounders x = new PostRounders();
        CHECK.due("8 hits(5), nobody", x.hits(5), -3);
        CHECK.due("8 hits(10), nobody", x.hits(10), -2);
        CHECK.due("8 hits(-1)", x.hits(-1), -2);
        Check.batters(x, 0, 1, 0, 1, 0, 1);
        CHECK.due("8 hits(0): out", x.hits(0), 0);
        CHECK.due("8 of(0, 2)", x.of(0, 2), 4);
        CHECK.due("8 count(4)", x.count(4), 1);
        CHECK.due("8 hits(1): no post", x.hits(1), 0);
        CHECK.due("8 of(1, 2)", x.of(1, 2), 0);
        CHECK.due("8 count(4)", x.count(4), 2);
        CHECK.due("8 hits(5): two posts", x.hits(5), 0);
        CHECK.due("8 of(2, 2)", x.of(2, 2), 2);
        CHECK.due("8 count(4): round, past who is out", x.count(4), 1);
        CHECK.due("8 hits(1): itself the last", x.hits(1), 0);
        CHECK.due("8 count(4)", x.count(4), 1);
        CHECK.due("8 of(2, 2) stays by no post", x.of(2, 2), 2);
        CHECK.due("8 hits(2): one post", x.hits(2), 0);
        CHECK.due("8 of(2, 2)", x.of(2, 2), 3);
        CHECK.due("8 of(1, 2)", x.of(1, 2), 1);
        CHECK.due("8 count(4): done", x.count(4), -1);
        CHECK.due("8 count(6)", x.count(6), 5);
        CHECK.due("8 hits(5)", x.hits(5), -3);
        CHECK.due("8 count(6) when refused", x.count(6), 5);
        CHECK.due("8 status(1)", x.status(1), 2);
    }

    private static void homes() {
        PostRounders x = new PostRounders();
        Check.batters(x, 2, 5, 2, 5, 2, 5, 4, 5);
        x.hits(5);
        x.hits(5);
        x.hits(5);
        CHECK.due("8 count(2)", x.count(2), 3);
        CHECK.due("8 three home and all the way round", x.hits(9), 5);
        CHECK.due("8 count(1)", x.count(1), 4);
        CHECK.due("8 count(5)", x.count(5), 5);
        CHECK.due("8 count(4)", x.count(4), 0);
        CHECK.due("8 round again", x.hits(9), 0);
        CHECK.due("8 of(0, 2)", x.of(0, 2), 1);
        x.sends(3);
        CHECK.due("8 one home, and NEXT beyond it", x.hits(1), 3);
        CHECK.due("8 count(5)", x.count(5), 8);
        CHECK.due("8 count(4): home waits again", x.count(4), 0);
    }

    /** Far beyond the 512 calls of the document, to come to its 9999 balls and points. */
    private static void mostBalls() {
        PostRounders x = new PostRounders();
        Check.batters(x, 4, 5);
        for (int ball = 1; ball <= 9999; ball++) {
            CHECK.due("8 hits(9), ball " + ball, x.hits(9), ball < 5000 ? 2 : ball == 5000 ? 1 : 0);
        }
        CHECK.due("8 count(5)", x.count(5), 9999);
        CHECK.due("8 count(6)", x.count(6), 9999);
        CHECK.due("8 hits(9)", x.hits(9), -3);
        CHECK.due("14 score(8) goes beyond", x.score(8), 16);
        CHECK.due("11 undo()", x.undo(), 9998);
        CHECK.due("8 hits(0)", x.hits(0), 0);
    }

    private static void sends() {
        PostRounders x = new PostRounders();
        CHECK.due("9 sends(0), nobody", x.sends(0), -2);
        Check.batters(x, 2, 5, 0, 1, 0, 1);
        CHECK.due("9 sends(3)", x.sends(3), -2);
        CHECK.due("9 sends(-1)", x.sends(-1), -2);
        CHECK.due("9 sends(0), is NEXT", x.sends(0), -3);
        CHECK.due("9 count(10)", x.count(10), 0);
        CHECK.due("9 sends(2)", x.sends(2), 0);
        CHECK.due("9 count(4)", x.count(4), 2);
        CHECK.due("9 count(10)", x.count(10), 1);
        CHECK.due("9 count(6)", x.count(6), 0);
        CHECK.due("9 sends(0)", x.sends(0), 2);
        x.hits(5);
        CHECK.due("9 sends(0), on a post", x.sends(0), -3);
        x.hits(0);
        CHECK.due("9 sends(1), out", x.sends(1), -3);
        x.hits(0);
        CHECK.due("9 sends(2), done", x.sends(2), -3);
        CHECK.due("9 status(1)", x.status(1), 4);
    }

    private static void row() {
        PostRounders x = new PostRounders();
        CHECK.due("10 row(0, 9)", x.row(0, 9), 5);
        CHECK.due("10 row(0, 0)", x.row(0, 0), 9);
        CHECK.due("10 row(7, 3)", x.row(7, 3), 5);
        CHECK.due("10 row(7, 4)", x.row(7, 4), 3);
        CHECK.due("10 row(8, 0)", x.row(8, 0), -2);
        CHECK.due("10 row(-1, 0)", x.row(-1, 0), -2);
        CHECK.due("10 row(0, 10)", x.row(0, 10), -2);
        CHECK.due("10 row(0, -1)", x.row(0, -1), -2);
        CHECK.due("10 row(0, 1)", x.row(0, 1), 0);
    }

    private static void undo() {
        PostRounders x = new PostRounders();
        CHECK.due("11 undo(), none", x.undo(), -3);
        Check.batters(x, 2, 5, 4, 5, 0, 1);
        long first = x.digest();
        x.hits(5);
        x.row(0, 9);
        long second = x.digest();
        x.hits(9);
        CHECK.due("11 count(5)", x.count(5), 3);
        x.sends(0);
        CHECK.due("11 undo() of who was sent", x.undo(), 2);
        CHECK.due("11 count(4)", x.count(4), 2);
        CHECK.due("11 undo() of a ball", x.undo(), 1);
        CHECK.due("11 digest()", x.digest(), second);
        CHECK.due("11 undo()", x.undo(), 0);
        CHECK.due("11 row stays", x.row(0, 5), 9);
        CHECK.due("11 digest()", x.digest(), first);
        CHECK.due("11 undo()", x.undo(), -3);
        CHECK.due("11 status(1)", x.status(1), 2);

        PostRounders y = new PostRounders();
        Check.batters(y, 4, 5);
        for (int ball = 0; ball < 11; ball++) {
            y.hits(9);
        }
        CHECK.due("11 count(10)", y.count(10), 8);
        for (int ball = 10; ball >= 3; ball--) {
            CHECK.due("11 undo() of eight", y.undo(), ball);
            CHECK.due("11 count(5) of eight", y.count(5), 2 * ball);
        }
        CHECK.due("11 undo() of eight", y.undo(), -3);
    }

    private static void of() {
        PostRounders x = new PostRounders();
        CHECK.due("12 of(0, 0), nobody", x.of(0, 0), -2);
        Check.batters(x, 3, 4, 5, 2);
        CHECK.due("12 of(0, 0)", x.of(0, 0), 3);
        CHECK.due("12 of(0, 1)", x.of(0, 1), 4);
        CHECK.due("12 of(1, 0)", x.of(1, 0), 5);
        CHECK.due("12 of(1, 1)", x.of(1, 1), 2);
        CHECK.due("12 of(1, 2)", x.of(1, 2), 0);
        CHECK.due("12 of(0, 3)", x.of(0, 3), -2);
        CHECK.due("12 of(0, -1)", x.of(0, -1), -2);
        CHECK.due("12 of(2, 0)", x.of(2, 0), -2);
        CHECK.due("12 of(-1, 0)", x.of(-1, 0), -2);
        x.hits(4);
        CHECK.due("12 of(0, 2)", x.of(0, 2), 3);
    }

    private static void worthOfBowlers() {
        // by ball 1 to 4, hits 0, 1, 6, 7, 9
        int[] hits = {0, 1, 6, 7, 9};
        int[][][] due = {
            {{0, 1, 6, 7, 9}, {0, 1, 6, 7, 9}, {0, 1, 6, 7, 9}, {0, 1, 6, 7, 9}},
            {{0, 0, 5, 6, 8}, {0, 0, 5, 6, 8}, {0, 0, 5, 6, 8}, {0, 0, 5, 6, 8}},
            {{1, 2, 7, 8, 10}, {0, 1, 6, 7, 9}, {1, 2, 7, 8, 10}, {0, 1, 6, 7, 9}},
            {{0, 1, 6, 7, 9}, {0, 1, 6, 7, 9}, {0, 1, 6, 7, 9}, {0, 0, 0, 0, 0}},
            {{0, 0, 5, 4, 6}, {0, 0, 5, 4, 6}, {0, 0, 5, 4, 6}, {0, 0, 5, 4, 6}},
            {{1, 2, 7, 8, 10}, {0, 1, 6, 7, 9}, {1, 2, 7, 8, 10}, {0, 1, 6, 7, 9}},
        };
        for (int kind = 0; kind < 6; kind++) {
            PostRounders x = new PostRounders();
            x.field(kind);
            Check.batters(x, 4, 5, 4, 5, 4, 5, 4, 5);
            for (int ball = 1; ball <= 4; ball++) {
                for (int k = 0; k < hits.length; k++) {
                    CHECK.due("13 worth(" + hits[k] + ", 0) by " + kind + ", ball " + ball,
                            x.worth(hits[k], 0), due[kind][ball - 1][k]);
                }
                x.hits(9);
            }
        }
        PostRounders x = new PostRounders();
        x.field(5);
        Check.batters(x, 4, 5);
        for (int ball = 1; ball <= 100; ball++) {
            int tired = Math.min(3, ball / 20);
            CHECK.due("13 worth(3, 0) by a tired one, ball " + ball, x.worth(3, 0), 3 + ball % 2 + tired);
            x.hits(9);
        }
    }

    private static void worthOfBatters() {
        PostRounders x = new PostRounders();
        CHECK.due("13 worth(9, 0), nobody", x.worth(9, 0), 9);
        CHECK.due("13 worth(9, 1), nobody", x.worth(9, 1), 0);
        // legs 1 and 5 with what comes to 0, 1, 4, 5, 6, 9
        int[] hits = {0, 1, 4, 5, 6, 9};
        int[][] legs1 = {{0, 0, 1, 2, 2, 3}, {0, 0, 1, 2, 3, 4}, {0, 0, 1, 1, 1, 1},
            {0, 1, 2, 3, 3, 4}, {0, 2, 3, 4, 4, 5}, {0, 0, 1, 0, 1, 0}};
        int[][] legs5 = {{0, 2, 3, 3, 3, 4}, {0, 2, 3, 3, 4, 5}, {0, 1, 1, 1, 1, 1},
            {0, 3, 4, 4, 4, 5}, {0, 4, 5, 5, 5, 6}, {0, 0, 1, 0, 1, 0}};
        for (int kind = 0; kind < 6; kind++) {
            x.field(0);
            Check.batters(x, kind, 1);
            for (int k = 0; k < hits.length; k++) {
                CHECK.due("13 worth(" + hits[k] + ", 1) of " + kind, x.worth(hits[k], 1), legs1[kind][k]);
            }
            x.field(0);
            Check.batters(x, kind, 5);
            for (int k = 0; k < hits.length; k++) {
                CHECK.due("13 worth(" + hits[k] + ", 1) of " + kind, x.worth(hits[k], 1), legs5[kind][k]);
            }
        }
        x.hits(0);
        CHECK.due("13 worth(9, 1), done", x.worth(9, 1), 0);
        CHECK.due("13 worth(10, 0)", x.worth(10, 0), -2);
        CHECK.due("13 worth(-1, 0)", x.worth(-1, 0), -2);
        CHECK.due("13 worth(0, 2)", x.worth(0, 2), -2);
        CHECK.due("13 worth(0, -1)", x.worth(0, -1), -2);
        CHECK.due("13 status(0)", x.status(0), 4);
    }
}
