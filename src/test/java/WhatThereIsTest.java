/** Promises 29 to 34: part, image, from, status, count, digest. */
public final class WhatThereIsTest {
    private static final Check CHECK = new Check("WhatThereIsTest");

    public static void main(String[] args) {
        constants();
        part();
        images();
        status();
        count();
        digest();
        CHECK.end();
    }

    private static void constants() {
        CHECK.due("NONE", PostRounders.NONE, -1);
        CHECK.due("BAD", PostRounders.BAD, -2);
        CHECK.due("NO", PostRounders.NO, -3);
        CHECK.due("FULL", PostRounders.FULL, -4);
    }

    private static void part() {
        PostRounders x = new PostRounders();
        CHECK.due("29 part(0)", x.part(0), 0);
        CHECK.due("29 part(1)", x.part(1), 1);
        CHECK.due("29 part(2)", x.part(2), -2);
        CHECK.due("29 part(-1)", x.part(-1), -2);
        Check.batters(x, 4, 5);
        x.chance(1, 1);
        CHECK.due("29 part(0)", x.part(0), 9);
        CHECK.due("29 part(1)", x.part(1), 10);
        CHECK.due("29 status(0)", x.status(0), 2);
    }

    private static void images() {
        PostRounders x = new PostRounders();
        CHECK.due("30 image(2)", x.image(2), -2);
        CHECK.due("30 image(-1)", x.image(-1), -2);
        CHECK.due("31 from(2)", x.from(2), -2);
        CHECK.due("31 from(-1)", x.from(-1), -2);
        CHECK.due("31 from(0)", x.from(0), -3);
        Check.batters(x, 2, 5, 4, 5, 1, 2);
        x.hits(5);
        x.row(2, 7);
        x.note(1, 2, 3);
        x.mark(1, 2, 3, 4);
        long first = x.digest();
        CHECK.due("30 image(0)", x.image(0), 1);
        CHECK.due("31 from(1)", x.from(1), -3);
        x.hits(9);
        x.row(2, 8);
        x.note(4, 5, 6);
        x.mark(0, 1, 1, 1);
        long second = x.digest();
        CHECK.due("30 image(1)", x.image(1), 1);
        x.field(3);
        CHECK.due("31 from(0)", x.from(0), 1);
        CHECK.due("34 digest() from 0", x.digest(), first);
        CHECK.due("31 from(1)", x.from(1), 1);
        CHECK.due("34 digest() from 1", x.digest(), second);
        x.hits(0);
        x.undo();
        x.undo();
        x.undo();
        CHECK.due("31 from(1) again", x.from(1), 1);
        CHECK.due("34 digest() from 1 again", x.digest(), second);
        CHECK.due("11 undo() behind from(1)", x.undo(), 1);
        CHECK.due("11 undo() behind from(1)", x.undo(), 0);
        x.from(0);
        CHECK.due("11 undo() behind from(0)", x.undo(), 0);
        CHECK.due("31 status(0)", x.status(0), 4);

        Check.write(x, "abc");
        x.chance(1, 0);
        x.image(0);
        Check.write(x, "abcd");
        x.batter(0, 1);
        x.chance(1, 20);
        x.from(0);
        CHECK.due("31 the text stays", x.count(11), 4);
        CHECK.due("31 the fraction stays", x.part(0), 0);
        CHECK.due("31 count(0)", x.count(0), 3);
    }

    private static void status() {
        PostRounders x = new PostRounders();
        CHECK.due("32 status(3)", x.status(3), -1);
        CHECK.due("32 status(-1)", x.status(-1), -1);
        CHECK.due("32 status(0)", x.status(0), 2);
        x.undo();
        CHECK.due("32 status(1)", x.status(1), 1);
        CHECK.due("32 status(2)", x.status(2), 0);
        x.order(0, 0);
        x.captains(-7);
        CHECK.due("32 status(0)", x.status(0), 4);
        x.order(1, 0);
        x.captains(0);
        x.send(1);
        x.read();
        CHECK.due("32 status(0), others don't count", x.status(0), 4);
        CHECK.due("32 status(1), others don't count", x.status(1), 1);
        CHECK.due("32 status(2), others don't count", x.status(2), 0);
        x.field(0);
        CHECK.due("32 status(0) behind field", x.status(0), 4);
    }

    private static void count() {
        PostRounders x = new PostRounders();
        x.field(2);
        Check.batters(x, 2, 5, 2, 5, 4, 5, 0, 1, 0, 1);
        x.hits(5);
        x.hits(5);
        x.hits(9);
        x.hits(5);
        x.hits(0);
        x.hits(0);
        x.note(1, 1, 1);
        x.note(1, 1, 1);
        x.mark(1, 1, 1, 1);
        Check.write(x, "xyz");
        // two timid ones come home by a greedy one; a plain one runs to post 2; ball 6 is out
        long[] counts = {5, 3, 1, 1, 1, 4, 6, 2, 2, 1, 6, 3};
        for (int what = 0; what < counts.length; what++) {
            CHECK.due("33 count(" + what + ")", x.count(what), counts[what]);
        }
        CHECK.due("33 count(12)", x.count(12), -2);
        CHECK.due("33 count(-1)", x.count(-1), -2);
        CHECK.due("33 status(0)", x.status(0), 2);
    }

    private static long fold(long... values) {
        long h = 1873;
        for (long v : values) {
            h = 31 * h + v;
        }
        return h;
    }

    private static void digest() {
        PostRounders x = new PostRounders();
        CHECK.due("34 digest(), new", x.digest(), fold(
                0, 0, 0, 0, -1, 0, 0, 0, 0, 0, 0, 0,
                5, 5, 5, 5, 5, 5, 5, 5, 0, 1));
        x.bowler(1);
        Check.batters(x, 2, 5, 4, 3);
        x.hits(5);
        x.row(7, 9);
        x.note(1, 2, 3);
        x.note(4, 5, 6);
        x.mark(1, 2, 3, 4);
        x.type(65);
        x.chance(1, 1);
        CHECK.due("34 digest()", x.digest(), fold(
                2, 1, 1, 0, 1, 0, 1, 1, 2, 1, 1, 1,
                2, 5, 1, 4, 3, 0,
                5, 5, 5, 5, 5, 5, 5, 9,
                1, 2, 3, 4, 5, 6,
                1, 2, 3, 4,
                4, 5));
        CHECK.due("34 status(0)", x.status(0), 0);
    }
}
