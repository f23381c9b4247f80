/** Promises 14 to 19: score, order, against, chance, mean, send. */
public final class ForecastTest {
    private static final Check CHECK = new Check("ForecastTest");

    public static void main(String[] args) {
        score();
        order();
        orderFromNow();
        against();
        chanceAndMean();
        doneInBetween();
        send();
        nothingIsChanged();
        CHECK.end();
    }

    private static void score() {
        PostRounders x = new PostRounders();
        CHECK.due("14 score(8), nobody", x.score(8), 0);
        CHECK.due("14 score(9)", x.score(9), -2);
        CHECK.due("14 score(-1)", x.score(-1), -2);
        Check.batters(x, 4, 5, 2, 5);
        Check.row(x, 9, 9, 9, 0, 9);
        // round (2); to post 1; round with one home (3); out; and the greedy one alone, round and round
        int[] due = {0, 2, 2, 5, 5, 7, 9, 11, 13};
        for (int n = 0; n <= 8; n++) {
            CHECK.due("14 score(" + n + ")", x.score(n), due[n]);
        }
        x.hits(9);
        CHECK.due("14 score(3) from now on", x.score(3), 3);
        x.field(0);
        Check.batters(x, 0, 1);
        Check.row(x, 0, 9, 9);
        CHECK.due("14 score(3), done by the first", x.score(3), 0);
    }

    private static void order() {
        PostRounders x = new PostRounders();
        CHECK.due("15 order(8, -1), nobody", x.order(8, -1), 0);
        CHECK.due("15 order(8, 0), nobody", x.order(8, 0), -5);
        CHECK.due("15 order(0, -1)", x.order(0, -1), -10);
        CHECK.due("15 order(9, 0)", x.order(9, 0), -10);
        CHECK.due("15 order(1, -2)", x.order(1, -2), -10);
        CHECK.due("15 order(-1, 99)", x.order(-1, 99), -10);
        CHECK.due("15 status(0)", x.status(0), 4);
        Check.batters(x, 4, 5, 2, 5, 2, 5);
        Check.row(x, 9, 9, 9);
        // the timid go first, so that the greedy one brings both home
        CHECK.due("15 order(3, -1)", x.order(3, -1), 4);
        CHECK.due("15 order(3, 0)", x.order(3, 0), 1);
        CHECK.due("15 order(3, 1)", x.order(3, 1), 2);
        CHECK.due("15 order(3, 2)", x.order(3, 2), 0);
        CHECK.due("15 order(3, 3)", x.order(3, 3), -5);
        CHECK.due("15 order(3, max)", x.order(3, Integer.MAX_VALUE), -5);
        CHECK.due("15 order(1, -1)", x.order(1, -1), 2);
        CHECK.due("15 order(1, 0)", x.order(1, 0), 0);
        CHECK.due("15 order(1, 1): the first such", x.order(1, 1), 1);
        CHECK.due("15 order(1, 2): the first such", x.order(1, 2), 2);
        CHECK.due("15 status(0) without -5", x.status(0), 4);
        CHECK.due("15 status(1) without -5", x.status(1), 0);
    }

    private static void orderFromNow() {
        PostRounders x = new PostRounders();
        x.field(3);
        Check.batters(x, 2, 5, 4, 5, 2, 5);
        x.hits(0);
        x.hits(9);
        x.hits(9);
        Check.row(x, 9, 9, 9);
        // ball 4 comes to nothing by the spinner: a timid one is lost; who was out bats again
        CHECK.due("15 order(3, -1) from now", x.order(3, -1), 3);
        CHECK.due("15 order(3, 0) from now", x.order(3, 0), 0);
        CHECK.due("15 order(3, 1) from now", x.order(3, 1), 2);
        CHECK.due("15 order(3, 2) from now", x.order(3, 2), 1);
    }

    private static void against() {
        PostRounders x = new PostRounders();
        CHECK.due("16 against(8, 0), nobody", x.against(8, 0), 0);
        CHECK.due("16 against(8, 1), nobody", x.against(8, 1), 0);
        CHECK.due("16 against(0, 0)", x.against(0, 0), -2);
        CHECK.due("16 against(9, 0)", x.against(9, 0), -2);
        CHECK.due("16 against(1, 2)", x.against(1, 2), -2);
        CHECK.due("16 against(1, -1)", x.against(1, -1), -2);
        Check.batters(x, 0, 5);
        Check.row(x, 7, 7, 7, 7);
        // 7 and 5 make four posts; one less makes three, and nobody waits any more
        CHECK.due("16 against(1, 0)", x.against(1, 0), 1);
        CHECK.due("16 against(1, 1)", x.against(1, 1), 0);
        x.field(0);
        Check.batters(x, 4, 5);
        CHECK.due("16 against(4, 0): all round, but by a spinner", x.against(4, 0), 3);
        CHECK.due("16 against(4, 1)", x.against(4, 1), 6);
        CHECK.due("16 against(3, 0): the least of like ones", x.against(3, 0), 0);
        CHECK.due("16 against(3, 1)", x.against(3, 1), 6);
        Check.row(x, 1);
        CHECK.due("16 against(1, 0)", x.against(1, 0), 1);
        CHECK.due("16 status(0)", x.status(0), 4);
    }

    private static void fraction(String call, PostRounders x, long above, long below) {
        CHECK.due(call + " part(0)", x.part(0), above);
        CHECK.due(call + " part(1)", x.part(1), below);
    }

    private static void chanceAndMean() {
        PostRounders x = new PostRounders();
        Check.batters(x, 0, 5, 2, 5);
        // 7, 8, 9 go round: 2 points; 0 is out
        CHECK.due("17 chance(1, 2)", x.chance(1, 2), 1);
        fraction("17 chance(1, 2)", x, 3, 10);
        CHECK.due("17 chance(1, 3)", x.chance(1, 3), 1);
        fraction("17 chance(1, 3)", x, 0, 1);
        CHECK.due("17 chance(0, 0)", x.chance(0, 0), 1);
        fraction("17 chance(0, 0)", x, 1, 1);
        CHECK.due("17 chance(0, 1)", x.chance(0, 1), 1);
        fraction("17 chance(0, 1)", x, 0, 1);
        CHECK.due("18 mean(1)", x.mean(1), 1);
        fraction("18 mean(1)", x, 3, 5);
        CHECK.due("18 mean(0)", x.mean(0), 1);
        fraction("18 mean(0)", x, 0, 1);
        // three posts by 4, 5, 6 and home by the timid one's 1 .. 9: 3/10 * 9/10 more
        CHECK.due("18 mean(2)", x.mean(2), 1);
        fraction("18 mean(2)", x, 87, 100);
        CHECK.due("17 chance(2, 1)", x.chance(2, 1), 1);
        fraction("17 chance(2, 1)", x, 57, 100);
        CHECK.due("17 chance(5, 0)", x.chance(5, 0), -2);
        CHECK.due("17 chance(-1, 0)", x.chance(-1, 0), -2);
        CHECK.due("17 chance(0, 21)", x.chance(0, 21), -2);
        CHECK.due("17 chance(0, -1)", x.chance(0, -1), -2);
        CHECK.due("18 mean(5)", x.mean(5), -2);
        CHECK.due("18 mean(-1)", x.mean(-1), -2);
        fraction("17 refused", x, 57, 100);
        CHECK.due("17 status(0)", x.status(0), 6);
    }

    private static void doneInBetween() {
        PostRounders x = new PostRounders();
        Check.batters(x, 0, 5);
        // 0 is out, 1 .. 6 stay on a post: done; 7, 8, 9 bat again
        x.chance(4, 8);
        fraction("17 chance(4, 8)", x, 81, 10000);
        x.mean(4);
        fraction("18 mean(4)", x, 2 * (3000 + 900 + 270 + 81) / 2, 5000);
        x.chance(4, 0);
        fraction("17 chance(4, 0)", x, 1, 1);
        x.hits(0);
        x.chance(4, 0);
        fraction("17 chance(4, 0), done", x, 1, 1);
        x.mean(4);
        fraction("18 mean(4), done", x, 0, 1);
    }

    private static void send() {
        PostRounders x = new PostRounders();
        CHECK.due("19 send(1), nobody", x.send(1), -1);
        CHECK.due("19 send(0)", x.send(0), -2);
        CHECK.due("19 send(4)", x.send(4), -2);
        Check.batters(x, 2, 5, 3, 5, 4, 5, 4, 5);
        CHECK.due("19 send(1)", x.send(1), 2);
        CHECK.due("19 part(0) stays", x.part(0), 0);
        x.sends(2);
        CHECK.due("19 send(1), NEXT itself", x.send(1), 2);
        x.sends(3);
        CHECK.due("19 send(1), the least of like ones", x.send(1), 2);
        x.sends(2);
        x.hits(0);
        x.hits(0);
        CHECK.due("19 send(1), out are not sent", x.send(1), 1);
        x.hits(0);
        CHECK.due("19 send(1), one rests", x.send(1), 1);
        x.hits(0);
        CHECK.due("19 send(3), done", x.send(3), -1);
        CHECK.due("19 status(0)", x.status(0), 2);
        CHECK.due("19 status(1)", x.status(1), 0);
    }

    private static void nothingIsChanged() {
        PostRounders x = new PostRounders();
        x.field(5);
        Check.batters(x, 0, 1, 1, 2, 2, 3, 3, 4, 4, 5, 5, 5);
        x.hits(5);
        x.hits(6);
        long before = x.digest();
        x.score(8);
        x.order(8, -1);
        x.order(8, 3);
        x.against(8, 0);
        x.send(3);
        x.captains(-1);
        x.days(5, 60);
        x.worth(9, 1);
        x.is();
        x.look();
        x.kinds(0);
        x.ask(0);
        CHECK.due("14 to 28 digest()", x.digest(), before);
    }
}
