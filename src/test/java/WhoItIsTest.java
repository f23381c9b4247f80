/** Promises 20 to 28: note, mark, forget, is, look, kinds, ask, captains, days. */
public final class WhoItIsTest {
    private static final Check CHECK = new Check("WhoItIsTest");

    public static void main(String[] args) {
        note();
        mark();
        forget();
        is();
        look();
        kinds();
        ask();
        captains();
        days();
        CHECK.end();
    }

    private static void note() {
        PostRounders x = new PostRounders();
        int[][] bad = {{-1, 0, 0}, {100, 0, 0}, {0, -1, 0}, {0, 10, 0}, {0, 0, -1}, {0, 0, 21}};
        for (int[] b : bad) {
            CHECK.due("20 note, bad", x.note(b[0], b[1], b[2]), -2);
        }
        for (int k = 1; k <= 6; k++) {
            CHECK.due("20 note(99, 9, 20)", x.note(99, 9, 20), k);
        }
        CHECK.due("20 note(0, 0, 0)", x.note(0, 0, 0), -4);
        CHECK.due("20 note(100, 0, 0) is bad first", x.note(100, 0, 0), -2);
        CHECK.due("20 count(8)", x.count(8), 6);
        CHECK.due("20 status(0)", x.status(0), 7);
        CHECK.due("20 status(2)", x.status(2), 1);
    }

    private static void mark() {
        PostRounders x = new PostRounders();
        CHECK.due("21 mark(0, 1, 0, 0), nobody", x.mark(0, 1, 0, 0), -2);
        Check.batters(x, 0, 1, 0, 1);
        int[][] bad = {{-1, 1, 0, 0}, {2, 1, 0, 0}, {0, 0, 0, 0}, {0, 6, 0, 0},
            {0, 1, -1, 0}, {0, 1, 21, 0}, {0, 1, 0, -1}, {0, 1, 0, 10}};
        for (int[] b : bad) {
            CHECK.due("21 mark, bad", x.mark(b[0], b[1], b[2], b[3]), -2);
        }
        for (int k = 1; k <= 6; k++) {
            CHECK.due("21 mark(1, 5, 20, 9)", x.mark(1, 5, 20, 9), k);
        }
        CHECK.due("21 mark(0, 1, 0, 0)", x.mark(0, 1, 0, 0), -4);
        CHECK.due("21 mark(2, 1, 0, 0) is bad first", x.mark(2, 1, 0, 0), -2);
        CHECK.due("21 count(9)", x.count(9), 6);
        CHECK.due("21 status(2)", x.status(2), 1);
    }

    private static void forget() {
        PostRounders x = new PostRounders();
        Check.batters(x, 0, 1);
        x.note(0, 0, 0);
        x.note(1, 0, 0);
        x.mark(0, 1, 0, 0);
        CHECK.due("22 forget(2)", x.forget(2), -2);
        CHECK.due("22 forget(-1)", x.forget(-1), -2);
        CHECK.due("22 forget(0)", x.forget(0), 2);
        CHECK.due("22 count(8)", x.count(8), 0);
        CHECK.due("22 count(9)", x.count(9), 1);
        CHECK.due("22 forget(1)", x.forget(1), 1);
        CHECK.due("22 count(9)", x.count(9), 0);
        CHECK.due("22 forget(1)", x.forget(1), 0);
        CHECK.due("22 status(0)", x.status(0), 2);
    }

    private static void is() {
        PostRounders x = new PostRounders();
        CHECK.due("23 is(), no notes", x.is(), 63);
        x.note(1, 5, 5);
        CHECK.due("23 plain, spinner", x.is(), 1 + 8);
        x.note(8, 5, 0);
        CHECK.due("23 spinner", x.is(), 8);
        x.forget(0);
        x.note(3, 6, 5);
        CHECK.due("23 fast, demon", x.is(), 2 + 16);
        x.note(3, 7, 6);
        CHECK.due("23 fast", x.is(), 2);
        x.forget(0);
        x.note(19, 5, 6);
        CHECK.due("23 slow, tired", x.is(), 4 + 32);
        x.note(20, 5, 6);
        CHECK.due("23 tired", x.is(), 32);
        x.note(99, 0, 4);
        CHECK.due("23 tired, three more at most", x.is(), 32);
        x.note(99, 0, 5);
        CHECK.due("23 nobody", x.is(), 0);
        x.forget(0);
        x.note(0, 9, 0);
        CHECK.due("23 spinner by ball 0", x.is(), 8);
    }

    private static void look() {
        PostRounders x = new PostRounders();
        CHECK.due("24 look(), no notes", x.look(), 11);
        x.note(1, 5, 5);
        CHECK.due("24 plain or spinner", x.look(), 1);
        x.forget(0);
        x.note(3, 6, 5);
        CHECK.due("24 fast or demon", x.look(), 7);
        x.forget(0);
        x.note(19, 5, 6);
        CHECK.due("24 slow or tired, who are alike so early", x.look(), 0);
        x.note(19, 5, 7);
        CHECK.due("24 no kind", x.look(), -1);
        CHECK.due("24 status(1)", x.status(1), 0);
    }

    private static void kinds() {
        PostRounders x = new PostRounders();
        CHECK.due("25 kinds(0), nobody", x.kinds(0), -2);
        Check.batters(x, 0, 3, 5, 5);
        CHECK.due("25 kinds(0)", x.kinds(0), 63);
        CHECK.due("25 kinds(2)", x.kinds(2), -2);
        CHECK.due("25 kinds(-1)", x.kinds(-1), -2);
        x.mark(0, 1, 4, 1);
        CHECK.due("25 plain, slogger, timid, lazy", x.kinds(0), 1 + 2 + 4 + 32);
        CHECK.due("25 of another", x.kinds(1), 63);
        x.mark(0, 1, 5, 1);
        CHECK.due("25 timid", x.kinds(0), 4);
        x.mark(1, 5, 20, 5);
        CHECK.due("25 slogger, quick", x.kinds(1), 2 + 8);
        x.mark(1, 5, 1, 3);
        CHECK.due("25 quick", x.kinds(1), 8);
        x.mark(1, 5, 1, 4);
        CHECK.due("25 no kind", x.kinds(1), 0);
        x.forget(1);
        x.mark(0, 3, 0, 3);
        CHECK.due("25 greedy by nothing", x.kinds(0), 16);
        CHECK.due("25 status(0)", x.status(0), 3);
    }

    private static void ask() {
        PostRounders x = new PostRounders();
        CHECK.due("26 ask(0), nobody", x.ask(0), -2);
        Check.batters(x, 0, 3, 0, 1);
        CHECK.due("26 ask(2)", x.ask(2), -2);
        CHECK.due("26 ask(-1)", x.ask(-1), -2);
        CHECK.due("26 ask(0)", x.ask(0), 3);
        CHECK.due("26 ask(1)", x.ask(1), 5);
        // plain or slogger: told apart from 6 on
        x.mark(0, 1, 5, 2);
        CHECK.due("26 kinds(0)", x.kinds(0), 3);
        CHECK.due("26 ask(0)", x.ask(0), 6);
        x.mark(0, 1, 5, 9);
        CHECK.due("26 ask(0), no kind", x.ask(0), -1);
        x.mark(1, 1, 5, 1);
        CHECK.due("26 ask(1), one kind", x.ask(1), 1);
    }

    private static void captains() {
        PostRounders x = new PostRounders();
        CHECK.due("27 captains(-1), nobody", x.captains(-1), 0);
        CHECK.due("27 captains(0), nobody", x.captains(0), -5);
        CHECK.due("27 captains(-2)", x.captains(-2), -10);
        CHECK.due("27 status(0)", x.status(0), 1);
        Check.batters(x, 4, 5);
        // all go round, but ball 4 by a spinner comes to nothing
        CHECK.due("27 captains(-1)", x.captains(-1), 1);
        CHECK.due("27 captains(0)", x.captains(0), 3);
        CHECK.due("27 captains(1)", x.captains(1), -5);
        CHECK.due("27 captains(max)", x.captains(Integer.MAX_VALUE), -5);
        x.field(0);
        Check.batters(x, 0, 1, 0, 1);
        Check.row(x, 0, 0, 0, 0);
        // nothing at all by any kind, but slow and tired ones
        CHECK.due("27 captains(-1), like ones", x.captains(-1), 12);
        CHECK.due("27 captains(5)", x.captains(5), 5);
        CHECK.due("27 captains(6)", x.captains(6), 10);
        x.hits(0);
        CHECK.due("27 captains(-1), one is out", x.captains(-1), 6);
        CHECK.due("27 captains(0), one is out", x.captains(0), 10);
        CHECK.due("27 status(0) without -5", x.status(0), 1);
    }

    private static void days() {
        PostRounders x = new PostRounders();
        CHECK.due("28 days(5, 9), nobody", x.days(5, 9), 0);
        CHECK.due("28 days(1000000, 0)", x.days(1000000, 0), -2);
        CHECK.due("28 days(-1, 0)", x.days(-1, 0), -2);
        CHECK.due("28 days(0, 61)", x.days(0, 61), -2);
        CHECK.due("28 days(0, -1)", x.days(0, -1), -2);
        Check.batters(x, 4, 5, 4, 5);
        CHECK.due("28 days(5, 0)", x.days(5, 0), 0);
        for (int seed = 0; seed < 1000000; seed += 99999) {
            // a greedy one with good legs goes round by any hit but 0
            java.math.BigInteger value = java.math.BigInteger.valueOf(seed);
            int out = 0;
            int due = 0;
            for (int n = 1; n <= 60; n++) {
                value = value.multiply(java.math.BigInteger.valueOf(1103515245L))
                        .add(java.math.BigInteger.valueOf(12345L)).mod(java.math.BigInteger.valueOf(2147483648L));
                boolean none = value.longValue() / 65536 % 10 == 0;
                if (out < 2) {
                    due += none ? 0 : 2;
                    out += none ? 1 : 0;
                }
                CHECK.due("28 days(" + seed + ", " + n + ")", x.days(seed, n), due);
            }
        }
        CHECK.due("28 status(0)", x.status(0), 4);
    }
}
