import java.math.BigInteger;

/** Boundary cases of promises 29 to 34 and of the terms they stand on, each sentence by itself. */
public final class BoundsWhatThereIsTest {
    private static final Check CHECK = new Check("BoundsWhatThereIsTest");

    public static void main(String[] args) {
        partAboveAndBelow();
        imageAnswersOne();
        twoImagesBesideEachOther();
        imageInPlaceOfAnother();
        imageKeepsAllThatItShould();
        imageKeepsWhatMayBeUndone();
        imageDoesNotKeepTheText();
        imageDoesNotKeepTheFraction();
        imageDoesNotKeepStatus();
        imageDoesNotKeepImages();
        imageOfNothing();
        imageStaysAsItWas();
        statusOfAnotherWhat();
        statusCountsEachReason();
        countAtFirst();
        countWhenFull();
        countNextWhenDone();
        digestOfNothing();
        digestOfAll();
        digestGoesRound();
        digestLeavesOut();
        fiveHundredAndTwelveCalls();
        CHECK.end();
    }

    private static PostRounders with(int... kindsAndLegs) {
        PostRounders x = new PostRounders();
        Check.batters(x, kindsAndLegs);
        return x;
    }

    /** "THE FRACTION: above (0), below (1). BAD." */
    private static void partAboveAndBelow() {
        PostRounders x = with(4, 5);
        x.mean(4);
        CHECK.due("29 part(0)", x.part(0), 30951);
        CHECK.due("29 part(1)", x.part(1), 5000);
        CHECK.due("29 part(2)", x.part(2), -2);
        CHECK.due("29 part(-1)", x.part(-1), -2);
        CHECK.due("29 status(0)", x.status(0), 2);
        CHECK.due("29 part(0) stays", x.part(0), 30951);
    }

    /** "An IMAGE is kept: 1." Again and again. */
    private static void imageAnswersOne() {
        PostRounders x = new PostRounders();
        for (int round = 0; round < 3; round++) {
            CHECK.due("30 image(0)", x.image(0), 1);
            CHECK.due("30 image(1)", x.image(1), 1);
            CHECK.due("31 from(0)", x.from(0), 1);
            CHECK.due("31 from(1)", x.from(1), 1);
        }
        CHECK.due("30 image(2)", x.image(2), -2);
        CHECK.due("30 image(-1)", x.image(-1), -2);
        CHECK.due("31 from(2)", x.from(2), -2);
        CHECK.due("31 from(-1)", x.from(-1), -2);
        CHECK.due("30 status(0)", x.status(0), 4);
    }

    /** "IMAGES 0, 1". */
    private static void twoImagesBesideEachOther() {
        PostRounders x = with(0, 1);
        x.image(0);
        CHECK.due("31 from(1), none kept yet", x.from(1), -3);
        x.batter(0, 2);
        x.image(1);
        x.batter(0, 3);
        CHECK.due("31 from(0)", x.from(0), 1);
        CHECK.due("31 count(0) of 0", x.count(0), 1);
        CHECK.due("31 from(1)", x.from(1), 1);
        CHECK.due("31 count(0) of 1", x.count(0), 2);
        CHECK.due("31 from(0)", x.from(0), 1);
        CHECK.due("31 count(0) of 0 again", x.count(0), 1);
    }

    private static void imageInPlaceOfAnother() {
        PostRounders x = Fields.FULL.make();
        x.image(0);
        x.field(0);
        x.batter(3, 3);
        long small = x.digest();
        x.image(0);
        x.hits(9);
        x.from(0);
        CHECK.due("30 digest() of the later one", x.digest(), small);
        CHECK.due("30 undo()", x.undo(), -3);
    }

    /** "keep all but them, THE TEXT, THE FRACTION and STATUS". */
    private static void imageKeepsAllThatItShould() {
        for (int f = 0; f < Fields.ALL.length; f++) {
            for (int g = 0; g < Fields.ALL.length; g++) {
                PostRounders x = Fields.ALL[f].make();
                long before = x.digest();
                x.image(1);
                // as different as can be
                x.field(g);
                Check.batters(x, 5, 5, 5, 4, 5, 3, 5, 2, 5, 1, 5, 5);
                for (int k = 0; k < 8; k++) {
                    x.row(k, k);
                    x.hits(g + k % 3);
                }
                for (int k = 0; k < g; k++) {
                    x.note(k, 9, 20);
                    x.mark(k, 5, 20, 9);
                }
                CHECK.due("31 from(1)", x.from(1), 1);
                CHECK.due("31 digest() of field " + f, x.digest(), before);
            }
        }
    }

    /** "what may be undone they keep". */
    private static void imageKeepsWhatMayBeUndone() {
        PostRounders x = with(4, 5);
        for (int ball = 0; ball < 10; ball++) {
            x.hits(9);
        }
        x.image(0);
        x.bowler(0);
        CHECK.due("31 count(10)", x.count(10), 0);
        x.from(0);
        CHECK.due("31 count(10)", x.count(10), 8);
        for (int ball = 9; ball >= 2; ball--) {
            CHECK.due("31 undo()", x.undo(), ball);
        }
        CHECK.due("31 undo()", x.undo(), -3);
        x.from(0);
        CHECK.due("31 count(10), again", x.count(10), 8);
        CHECK.due("31 undo(), again", x.undo(), 9);
        // and that nothing may be undone they keep as well
        PostRounders y = with(4, 5);
        y.image(1);
        y.hits(9);
        y.from(1);
        CHECK.due("31 undo() of none", y.undo(), -3);
    }

    private static void imageDoesNotKeepTheText() {
        PostRounders x = new PostRounders();
        Check.write(x, "field 1;");
        x.image(0);
        Check.write(x, "field 2; ");
        x.from(0);
        CHECK.due("31 count(11) stays", x.count(11), 9);
        CHECK.due("31 read()", x.read(), 1);
        CHECK.due("31 count(7) by the later text", x.count(7), 2);
        x.clear();
        x.from(0);
        CHECK.due("31 count(11) stays empty", x.count(11), 0);
    }

    private static void imageDoesNotKeepTheFraction() {
        PostRounders x = with(4, 5);
        x.image(0);
        x.chance(2, 4);
        x.from(0);
        CHECK.due("31 part(0) stays", x.part(0), 81);
        CHECK.due("31 part(1) stays", x.part(1), 100);
    }

    private static void imageDoesNotKeepStatus() {
        PostRounders x = new PostRounders();
        x.image(0);
        x.hits(10);
        x.hits(5);
        for (int k = 0; k < 7; k++) {
            x.batter(0, 1);
        }
        x.from(0);
        for (int what = 0; what < 3; what++) {
            CHECK.due("31 status(" + what + ") stays", x.status(what), 1);
        }
    }

    /** "all but them": an image holds no images, so the other one stays. */
    private static void imageDoesNotKeepImages() {
        PostRounders x = with(0, 1);
        x.image(0);
        x.batter(0, 1);
        x.image(1);
        x.from(0);
        CHECK.due("31 from(1), kept later", x.from(1), 1);
        CHECK.due("31 count(0)", x.count(0), 2);
        x.batter(0, 1);
        x.image(1);
        x.from(0);
        x.from(1);
        CHECK.due("31 count(0), kept anew", x.count(0), 3);
    }

    /** A field with nothing in it is kept as well. */
    private static void imageOfNothing() {
        PostRounders x = new PostRounders();
        long before = x.digest();
        x.image(1);
        Check.batters(x, 4, 5, 3, 1);
        x.hits(9);
        x.row(0, 0);
        x.note(0, 0, 0);
        x.mark(0, 1, 0, 0);
        CHECK.due("31 from(1)", x.from(1), 1);
        CHECK.due("31 digest()", x.digest(), before);
        CHECK.due("31 batter(0, 1)", x.batter(0, 1), 0);
        CHECK.due("31 of(0, 2)", x.of(0, 2), 0);
    }

    /** What is done behind image and from does not come into the image. */
    private static void imageStaysAsItWas() {
        PostRounders x = Fields.MIDDLE.make();
        x.image(0);
        x.from(0);
        long before = x.digest();
        for (int round = 0; round < 2; round++) {
            x.hits(7);
            x.sends(3);
            x.row(0, 9);
            x.note(9, 9, 9);
            x.mark(1, 1, 1, 1);
            x.batter(0, 1);
            x.bowler(5);
            x.forget(0);
            x.from(0);
            CHECK.due("31 digest() in round " + round, x.digest(), before);
        }
    }

    /** "-1: another what (counts as BAD)." */
    private static void statusOfAnotherWhat() {
        PostRounders x = new PostRounders();
        CHECK.due("32 status(3)", x.status(3), -1);
        CHECK.due("32 status(0)", x.status(0), 1);
        CHECK.due("32 status(-1)", x.status(-1), -1);
        CHECK.due("32 status(0)", x.status(0), 2);
        CHECK.due("32 status(1)", x.status(1), 0);
        CHECK.due("32 status(2)", x.status(2), 0);
    }

    /** "STATUS: BAD (0), NO (1), FULL (2)." */
    private static void statusCountsEachReason() {
        PostRounders x = new PostRounders();
        for (int k = 1; k <= 20; k++) {
            x.count(12);
            x.undo();
            x.from(0);
            CHECK.due("32 status(0)", x.status(0), k);
            CHECK.due("32 status(1)", x.status(1), 2 * k);
            CHECK.due("32 status(2)", x.status(2), 0);
        }
        for (int k = 0; k < 6; k++) {
            x.note(0, 0, 0);
        }
        for (int k = 1; k <= 20; k++) {
            x.note(0, 0, 0);
            CHECK.due("32 status(2)", x.status(2), k);
        }
        CHECK.due("32 status(0)", x.status(0), 20);
        CHECK.due("32 status(1)", x.status(1), 40);
    }

    /** "How many: 0 BATTERS .. 4 NEXT (NONE: DONE) .. 11 bytes of THE TEXT. BAD." */
    private static void countAtFirst() {
        PostRounders x = new PostRounders();
        for (int what = 0; what <= 11; what++) {
            CHECK.due("33 count(" + what + ")", x.count(what), what == 4 ? -1 : 0);
        }
        CHECK.due("33 status(0)", x.status(0), 0);
        CHECK.due("33 count(12)", x.count(12), -2);
        CHECK.due("33 count(-1)", x.count(-1), -2);
        CHECK.due("33 status(0)", x.status(0), 2);
    }

    private static void countWhenFull() {
        PostRounders x = Fields.FULL.make();
        int[] due = {6, -9, -9, -9, -9, -9, 10, 5, 6, 6, 8, 150};
        for (int what = 0; what <= 11; what++) {
            if (due[what] != -9) {
                CHECK.due("33 count(" + what + "), full", x.count(what), due[what]);
            }
        }
        CHECK.due("33 all are somewhere", x.count(1) + x.count(2) + x.count(3), 6);
        PostRounders out = with(0, 1, 0, 1, 0, 1, 0, 1, 0, 1, 0, 1);
        CHECK.due("33 count(1), all wait", out.count(1), 6);
        for (int ball = 0; ball < 6; ball++) {
            out.hits(0);
        }
        CHECK.due("33 count(3), all out", out.count(3), 6);
        CHECK.due("33 count(1), none waits", out.count(1), 0);
        PostRounders posts = with(2, 5, 2, 5, 2, 5);
        posts.hits(5);
        posts.hits(5);
        posts.hits(5);
        CHECK.due("33 count(2), on all posts", posts.count(2), 3);
    }

    /** "4 NEXT (NONE: DONE)". */
    private static void countNextWhenDone() {
        CHECK.due("33 count(4), nobody", new PostRounders().count(4), -1);
        CHECK.due("33 count(4), done", Fields.DONE.make().count(4), -1);
        PostRounders x = with(0, 1, 0, 1, 0, 1, 0, 1, 0, 1, 0, 1);
        for (int i = 0; i < 6; i++) {
            CHECK.due("33 count(4)", x.count(4), i);
            x.hits(0);
        }
        CHECK.due("33 count(4), all out", x.count(4), -1);
        CHECK.due("33 status(0)", x.status(0), 0);
    }

    /** "h = 1873; then h = 31 h + v for each v", reckoned without a wrap-around and then cut to 64 bits. */
    private static long fold(long... values) {
        BigInteger h = BigInteger.valueOf(1873);
        for (long v : values) {
            h = h.multiply(BigInteger.valueOf(31)).add(BigInteger.valueOf(v));
        }
        return h.longValue();
    }

    private static void digestOfNothing() {
        CHECK.due("34 digest()", new PostRounders().digest(), fold(
                0, 0, 0, 0, -1, 0, 0, 0, 0, 0, 0, 0,
                5, 5, 5, 5, 5, 5, 5, 5,
                0, 1));
    }

    /** Six batters, six notes, six marks: all is in it, in its order. */
    private static void digestOfAll() {
        PostRounders x = new PostRounders();
        x.field(3);
        Check.batters(x, 0, 1, 2, 5, 2, 4, 2, 3, 4, 5, 5, 2);
        x.hits(0);
        x.hits(5);
        x.hits(5);
        x.sends(4);
        x.sends(3);
        Check.row(x, 9, 8, 7, 6, 4, 3, 2, 1);
        for (int k = 0; k < 6; k++) {
            x.note(10 + k, k, 20 - k);
            x.mark(k, 1 + k % 5, 15 + k % 5, 9 - k);
        }
        Check.write(x, "abc");
        x.chance(1, 0);
        CHECK.due("34 digest()", x.digest(), fold(
                6, 3, 2, 1, 3, 0, 3, 3, 6, 6, 5, 3,
                0, 1, 4, 2, 5, 2, 2, 4, 1, 2, 3, 0, 4, 5, 0, 5, 2, 0,
                9, 8, 7, 6, 4, 3, 2, 1,
                10, 0, 20, 11, 1, 19, 12, 2, 18, 13, 3, 17, 14, 4, 16, 15, 5, 15,
                0, 1, 15, 9, 1, 2, 16, 8, 2, 3, 17, 7, 3, 4, 18, 6, 4, 5, 19, 5, 5, 1, 15, 4,
                1, 1));
    }

    /** 31 h goes round in 64 bits, below 0 too. */
    private static void digestGoesRound() {
        boolean below = false;
        boolean above = false;
        for (int size = 0; size <= 6; size++) {
            for (int kind = 0; kind <= 5; kind++) {
                PostRounders x = new PostRounders();
                x.field(kind);
                long[] values = new long[22 + 3 * size];
                values[0] = size;
                values[1] = size;
                values[4] = size == 0 ? -1 : 0;
                values[7] = kind;
                for (int i = 0; i < size; i++) {
                    x.batter(i, 1 + i % 5);
                    values[12 + 3 * i] = i;
                    values[13 + 3 * i] = 1 + i % 5;
                }
                java.util.Arrays.fill(values, 12 + 3 * size, 20 + 3 * size, 5);
                values[21 + 3 * size] = 1;
                long digest = x.digest();
                CHECK.due("34 digest(), " + size + " batters, bowler " + kind, digest, fold(values));
                below |= digest < 0;
                above |= digest > 0;
            }
        }
        CHECK.that("34 digests below 0 and above", below && above);
    }

    /** STATUS, images and what the text says are not in it; asking for it changes nothing. */
    private static void digestLeavesOut() {
        PostRounders x = with(4, 5);
        Check.write(x, "abc");
        long before = x.digest();
        x.hits(10);
        x.undo();
        x.image(0);
        x.image(1);
        Check.write(x, "xyz");
        CHECK.due("34 digest()", x.digest(), before);
        CHECK.due("34 digest() again", x.digest(), before);
    }

    /** "An object is used for at most 512 calls": the last of them is as good as the first. */
    private static void fiveHundredAndTwelveCalls() {
        PostRounders x = new PostRounders();
        x.batter(4, 5);
        for (int call = 2; call <= 512; call++) {
            CHECK.due("8 hits(9), call " + call, x.hits(9), 2);
        }
        PostRounders y = new PostRounders();
        for (int call = 1; call < 512; call++) {
            y.hits(-1);
        }
        CHECK.due("32 status(0), call 512", y.status(0), 511);
    }
}
