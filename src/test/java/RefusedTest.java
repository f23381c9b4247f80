/**
 * "Refused, changing nothing but STATUS, the first of: BAD -2 a number is not as told; NO -3 as told; FULL -4
 * (where others are told they count as these)." Each number of each call at both ends and beyond them, each NO,
 * each FULL, in a new field, one in the middle, one that is DONE and one that is full.
 */
public final class RefusedTest {
    private static final Check CHECK = new Check("RefusedTest");
    private static final Refusals REFUSALS = new Refusals(CHECK);
    private static final int ANY = Integer.MAX_VALUE;

    public static void main(String[] args) {
        fieldsAreAsTold();
        badOfTheField();
        badOfBalls();
        badOfHowItGoes();
        badOfWhoItIs();
        badOfWhatThereIs();
        noOfHits();
        noOfSends();
        noOfUndo();
        noOfFrom();
        fullOfBatter();
        fullOfType();
        fullOfNote();
        fullOfMark();
        badComesFirst();
        notCounted();
        countedOneByOne();
        nothingIsChangedByAsking();
        CHECK.end();
    }

    /** The fields that the tests below begin with hold what their names say. */
    private static void fieldsAreAsTold() {
        // counts 0 to 11: batters, waiting, on posts, out, next, points, balls, bowler, notes, marks, undo, text
        int[][] counts = {
            {0, 0, 0, 0, -1, 0, 0, 0, 0, 0, 0, 0},
            {5, 3, 1, 1, 2, 2, 3, 3, 2, 2, 4, 41},
            {3, 0, 2, 1, -1, 0, 3, 1, 1, 1, 3, 41},
            {6, -9, -9, -9, -9, -9, 10, 5, 6, 6, 8, 150},
        };
        for (int f = 0; f < counts.length; f++) {
            PostRounders x = Fields.ALL[f].make();
            for (int what = 0; what < 12; what++) {
                if (counts[f][what] != -9) {
                    CHECK.due("field " + f + ", count(" + what + ")", x.count(what), counts[f][what]);
                }
            }
            if (f > 0) {
                CHECK.that("field " + f + ", STATUS is told apart", x.status(0) > x.status(1)
                        && x.status(0) + x.status(1) + x.status(2) > 0);
                CHECK.that("field " + f + ", the fraction", x.part(0) > 0 && x.part(1) > 1);
                CHECK.due("field " + f + ", the text is one", x.read(), 4);
            }
        }
    }

    private static void badOfTheField() {
        REFUSALS.range("2 field(kind)", 0, 5, (x, v) -> x.field(v));
        REFUSALS.range("3 bowler(kind)", 0, 5, (x, v) -> x.bowler(v));
        REFUSALS.range("4 batter(kind, 1)", 0, 5, (x, v) -> x.batter(v, 1));
        REFUSALS.range("4 batter(0, legs)", 1, 5, (x, v) -> x.batter(0, v));
        REFUSALS.range("5 type(c)", 0, 127, (x, v) -> x.type(v));
    }

    private static void badOfBalls() {
        REFUSALS.range("8 hits(h)", 0, 9, (x, v) -> x.hits(v));
        REFUSALS.batterRange("9 sends(i)", (x, v) -> x.sends(v));
        REFUSALS.range("10 row(k, 0)", 0, 7, (x, v) -> x.row(v, 0));
        REFUSALS.range("10 row(0, h)", 0, 9, (x, v) -> x.row(0, v));
        REFUSALS.batterRange("12 of(i, 0)", (x, v) -> x.of(v, 0));
        REFUSALS.batterRange("12 of(i, 2)", (x, v) -> x.of(v, 2));
        REFUSALS.range("13 worth(h, 0)", 0, 9, (x, v) -> x.worth(v, 0));
        REFUSALS.range("13 worth(h, 1)", 0, 9, (x, v) -> x.worth(v, 1));
        REFUSALS.range("13 worth(0, what)", 0, 1, (x, v) -> x.worth(0, v));
        for (int f = 1; f < Fields.ALL.length; f++) {
            Fields.Make make = Fields.ALL[f];
            for (int what : new int[] {-1, 3, Integer.MIN_VALUE, ANY}) {
                REFUSALS.refused("12 of(0, " + what + ")", make, x -> x.of(0, what), -2, Refusals.BAD);
            }
        }
    }

    private static void badOfHowItGoes() {
        REFUSALS.range("14 score(n)", 0, 8, (x, v) -> x.score(v));
        REFUSALS.range("15 order(n, NONE)", 1, 8, -10, (x, v) -> x.order(v, -1));
        REFUSALS.range("15 order(n, 0)", 1, 8, -10, (x, v) -> x.order(v, 0));
        REFUSALS.range("15 order(1, k)", -1, ANY, -10, (x, v) -> x.order(1, v));
        REFUSALS.range("16 against(n, 0)", 1, 8, (x, v) -> x.against(v, 0));
        REFUSALS.range("16 against(n, 1)", 1, 8, (x, v) -> x.against(v, 1));
        REFUSALS.range("16 against(1, what)", 0, 1, (x, v) -> x.against(1, v));
        REFUSALS.range("17 chance(n, 0)", 0, 4, (x, v) -> x.chance(v, 0));
        REFUSALS.range("17 chance(0, x)", 0, 20, (x, v) -> x.chance(0, v));
        REFUSALS.range("18 mean(n)", 0, 4, (x, v) -> x.mean(v));
        REFUSALS.range("19 send(n)", 1, 3, (x, v) -> x.send(v));
    }

    private static void badOfWhoItIs() {
        REFUSALS.range("20 note(t, 0, 0)", 0, 99, (x, v) -> x.note(v, 0, 0));
        REFUSALS.range("20 note(0, h, 0)", 0, 9, (x, v) -> x.note(0, v, 0));
        REFUSALS.range("20 note(0, 0, g)", 0, 20, (x, v) -> x.note(0, 0, v));
        REFUSALS.batterRange("21 mark(i, 1, 0, 0)", (x, v) -> x.mark(v, 1, 0, 0));
        for (int f = 1; f < Fields.ALL.length; f++) {
            badOfMark(Fields.ALL[f]);
        }
        REFUSALS.range("22 forget(what)", 0, 1, (x, v) -> x.forget(v));
        REFUSALS.batterRange("25 kinds(i)", (x, v) -> x.kinds(v));
        REFUSALS.batterRange("26 ask(i)", (x, v) -> x.ask(v));
        REFUSALS.range("27 captains(k)", -1, ANY, -10, (x, v) -> x.captains(v));
        REFUSALS.range("28 days(seed, 0)", 0, 999999, (x, v) -> x.days(v, 0));
        REFUSALS.range("28 days(0, n)", 0, 60, (x, v) -> x.days(0, v));
    }

    private static void badOfMark(Fields.Make make) {
        for (int l : new int[] {0, 6, Integer.MIN_VALUE, ANY}) {
            REFUSALS.refused("21 mark(0, " + l + ", 0, 0)", make, x -> x.mark(0, l, 0, 0), -2, Refusals.BAD);
        }
        for (int g : new int[] {-1, 21, Integer.MIN_VALUE, ANY}) {
            REFUSALS.refused("21 mark(0, 1, " + g + ", 0)", make, x -> x.mark(0, 1, g, 0), -2, Refusals.BAD);
        }
        for (int p : new int[] {-1, 10, Integer.MIN_VALUE, ANY}) {
            REFUSALS.refused("21 mark(0, 1, 0, " + p + ")", make, x -> x.mark(0, 1, 0, p), -2, Refusals.BAD);
        }
    }

    private static void badOfWhatThereIs() {
        REFUSALS.range("29 part(what)", 0, 1, (x, v) -> x.part(v));
        REFUSALS.range("30 image(i)", 0, 1, (x, v) -> x.image(v));
        REFUSALS.range("31 from(i)", 0, 1, (x, v) -> x.from(v));
        REFUSALS.range("32 status(what)", 0, 2, -1, (x, v) -> x.status(v));
        REFUSALS.range("33 count(what)", 0, 11, (x, v) -> x.count(v));
    }

    /** "A BALL with a HIT .. NO: it is DONE, BALLS are 9999." */
    private static void noOfHits() {
        for (int h = 0; h <= 9; h++) {
            int hit = h;
            REFUSALS.refused("8 hits(" + h + "), nobody there", Fields.NEW, x -> x.hits(hit), -3, Refusals.NO);
            REFUSALS.refused("8 hits(" + h + "), done", Fields.DONE, x -> x.hits(hit), -3, Refusals.NO);
        }
    }

    /** "A BATTER is sent in .. NO: one does not WAIT, is NEXT." */
    private static void noOfSends() {
        REFUSALS.refused("9 sends(0), out", Fields.MIDDLE, x -> x.sends(0), -3, Refusals.NO);
        REFUSALS.refused("9 sends(1), on a post", Fields.MIDDLE, x -> x.sends(1), -3, Refusals.NO);
        REFUSALS.refused("9 sends(2), is NEXT", Fields.MIDDLE, x -> x.sends(2), -3, Refusals.NO);
        for (int i = 0; i < 3; i++) {
            int who = i;
            REFUSALS.refused("9 sends(" + i + "), done", Fields.DONE, x -> x.sends(who), -3, Refusals.NO);
        }
    }

    /** "UNDO: BALLS then. NO: none may be." */
    private static void noOfUndo() {
        REFUSALS.refused("11 undo(), new", Fields.NEW, PostRounders::undo, -3, Refusals.NO);
        REFUSALS.refused("11 undo(), behind a batter that comes", () -> {
            PostRounders x = Fields.MIDDLE.make();
            x.batter(0, 1);
            return x;
        }, PostRounders::undo, -3, Refusals.NO);
        REFUSALS.refused("11 undo(), behind all that may be", () -> {
            PostRounders x = Fields.FULL.make();
            for (int k = 0; k < 8; k++) {
                x.undo();
            }
            return x;
        }, PostRounders::undo, -3, Refusals.NO);
    }

    /** "It goes on from an IMAGE: 1 .. NO: none was kept." */
    private static void noOfFrom() {
        REFUSALS.refused("31 from(0), none kept", Fields.NEW, x -> x.from(0), -3, Refusals.NO);
        REFUSALS.refused("31 from(1), none kept", Fields.NEW, x -> x.from(1), -3, Refusals.NO);
        REFUSALS.refused("31 from(1), but 0 was kept", () -> {
            PostRounders x = new PostRounders();
            x.batter(0, 1);
            x.image(0);
            return x;
        }, x -> x.from(1), -3, Refusals.NO);
        REFUSALS.refused("31 from(0), but 1 was kept", () -> {
            PostRounders x = new PostRounders();
            x.batter(0, 1);
            x.image(1);
            return x;
        }, x -> x.from(0), -3, Refusals.NO);
    }

    /** "A BATTER: the number .. FULL: 6." */
    private static void fullOfBatter() {
        REFUSALS.refused("4 batter(0, 1), six are there", Fields.FULL, x -> x.batter(0, 1), -4, Refusals.FULL);
        REFUSALS.refused("4 batter(5, 5), six are there", Fields.FULL, x -> x.batter(5, 5), -4, Refusals.FULL);
        REFUSALS.refused("4 batter(0, 1), six are there, all out", () -> {
            PostRounders x = new PostRounders();
            for (int i = 0; i < 6; i++) {
                x.batter(0, 1);
            }
            for (int i = 0; i < 6; i++) {
                x.hits(0);
            }
            return x;
        }, x -> x.batter(0, 1), -4, Refusals.FULL);
    }

    /** "A byte (0 .. 127) comes behind THE TEXT .. FULL", "a TEXT (150 bytes at most)". */
    private static void fullOfType() {
        for (int c : new int[] {0, 32, 59, 127}) {
            REFUSALS.refused("5 type(" + c + "), 150 are there", Fields.FULL, x -> x.type(c), -4, Refusals.FULL);
        }
    }

    /** "A NOTE: how many there are .. FULL: 6." */
    private static void fullOfNote() {
        REFUSALS.refused("20 note(0, 0, 0), six are there", Fields.FULL, x -> x.note(0, 0, 0), -4, Refusals.FULL);
        REFUSALS.refused("20 note(99, 9, 20), six are there", Fields.FULL, x -> x.note(99, 9, 20), -4, Refusals.FULL);
    }

    /** "A MARK: how many there are .. FULL: 6." */
    private static void fullOfMark() {
        REFUSALS.refused("21 mark(0, 1, 0, 0), six are there", Fields.FULL, x -> x.mark(0, 1, 0, 0), -4, Refusals.FULL);
        REFUSALS.refused("21 mark(5, 5, 20, 9), six are there", Fields.FULL, x -> x.mark(5, 5, 20, 9), -4,
                Refusals.FULL);
    }

    /** "the first of: BAD .. NO .. FULL": a call that could be refused for two reasons is so for the first. */
    private static void badComesFirst() {
        REFUSALS.refused("4 batter(6, 1) when full", Fields.FULL, x -> x.batter(6, 1), -2, Refusals.BAD);
        REFUSALS.refused("4 batter(0, 6) when full", Fields.FULL, x -> x.batter(0, 6), -2, Refusals.BAD);
        REFUSALS.refused("5 type(128) when full", Fields.FULL, x -> x.type(128), -2, Refusals.BAD);
        REFUSALS.refused("8 hits(10) when done", Fields.DONE, x -> x.hits(10), -2, Refusals.BAD);
        REFUSALS.refused("8 hits(-1), nobody there", Fields.NEW, x -> x.hits(-1), -2, Refusals.BAD);
        REFUSALS.refused("9 sends(3) when done", Fields.DONE, x -> x.sends(3), -2, Refusals.BAD);
        REFUSALS.refused("9 sends(0), nobody there", Fields.NEW, x -> x.sends(0), -2, Refusals.BAD);
        REFUSALS.refused("20 note(100, 0, 0) when full", Fields.FULL, x -> x.note(100, 0, 0), -2, Refusals.BAD);
        REFUSALS.refused("21 mark(6, 1, 0, 0) when full", Fields.FULL, x -> x.mark(6, 1, 0, 0), -2, Refusals.BAD);
        REFUSALS.refused("31 from(2), none kept", Fields.NEW, x -> x.from(2), -2, Refusals.BAD);
        REFUSALS.refused("15 order(0, 99): not -5", Fields.MIDDLE, x -> x.order(0, 99), -10, Refusals.BAD);
        REFUSALS.refused("15 order(9, 99): not -5", Fields.NEW, x -> x.order(9, 99), -10, Refusals.BAD);
        REFUSALS.refused("19 send(0): not NONE", Fields.DONE, x -> x.send(0), -2, Refusals.BAD);
        REFUSALS.refused("26 ask(3): not NONE", Fields.DONE, x -> x.ask(3), -2, Refusals.BAD);
    }

    /** -5, NONE and the FAULT of a text are told, but not as BAD, NO or FULL. */
    private static void notCounted() {
        REFUSALS.refused("7 read(), empty text", Fields.NEW, PostRounders::read, -10, Refusals.NOT_COUNTED);
        REFUSALS.refused("15 order(8, 0), nobody", Fields.NEW, x -> x.order(8, 0), -5, Refusals.NOT_COUNTED);
        REFUSALS.refused("15 order(1, 5), five there", Fields.MIDDLE, x -> x.order(1, 5), -5, Refusals.NOT_COUNTED);
        REFUSALS.refused("15 order(1, 6), six there", Fields.FULL, x -> x.order(1, 6), -5, Refusals.NOT_COUNTED);
        REFUSALS.refused("15 order(1, max)", Fields.FULL, x -> x.order(1, ANY), -5, Refusals.NOT_COUNTED);
        REFUSALS.refused("19 send(1), nobody", Fields.NEW, x -> x.send(1), -1, Refusals.NOT_COUNTED);
        REFUSALS.refused("19 send(3), done", Fields.DONE, x -> x.send(3), -1, Refusals.NOT_COUNTED);
        REFUSALS.refused("27 captains(0), done", Fields.DONE, x -> x.captains(0), -5, Refusals.NOT_COUNTED);
        REFUSALS.refused("27 captains(max)", Fields.MIDDLE, x -> x.captains(ANY), -5, Refusals.NOT_COUNTED);
        Fields.Make noKind = () -> {
            PostRounders x = Fields.MIDDLE.make();
            x.note(0, 0, 20);
            x.mark(0, 1, 0, 9);
            return x;
        };
        REFUSALS.refused("24 look(), no kind", noKind, PostRounders::look, -1, Refusals.NOT_COUNTED);
        REFUSALS.refused("26 ask(0), no kind", noKind, x -> x.ask(0), -1, Refusals.NOT_COUNTED);
        REFUSALS.refused("33 count(4), done", Fields.DONE, x -> x.count(4), -1, Refusals.NOT_COUNTED);
    }

    /** "STATUS: how many calls were refused as BAD, NO, FULL": each one more, and each of its own reason. */
    private static void countedOneByOne() {
        PostRounders x = Fields.FULL.make();
        int bad = x.status(0);
        int no = x.status(1);
        int full = x.status(2);
        for (int k = 1; k <= 5; k++) {
            x.hits(10);
            x.order(0, 0);
            x.captains(-2);
            x.status(3);
            x.batter(0, 1);
            x.type(1);
            x.note(0, 0, 0);
            x.sends(x.count(4));
            CHECK.due("32 status(0) behind round " + k, x.status(0), bad + 4 * k);
            CHECK.due("32 status(1) behind round " + k, x.status(1), no + k);
            CHECK.due("32 status(2) behind round " + k, x.status(2), full + 3 * k);
        }
    }

    /** "(Nothing is changed by these ..)": what is asked leaves all as it was, STATUS too. */
    private static void nothingIsChangedByAsking() {
        for (int f = 0; f < Fields.ALL.length; f++) {
            Fields.Make make = Fields.ALL[f];
            REFUSALS.changesNothing("14 score(8), field " + f, make, x -> x.score(8));
            REFUSALS.changesNothing("15 order(8, -1), field " + f, make, x -> x.order(8, -1));
            REFUSALS.changesNothing("15 order(8, 0), field " + f, make, x -> x.order(8, 0));
            REFUSALS.changesNothing("16 against(8, 0), field " + f, make, x -> x.against(8, 0));
            REFUSALS.changesNothing("16 against(8, 1), field " + f, make, x -> x.against(8, 1));
            REFUSALS.changesNothing("19 send(3), field " + f, make, x -> x.send(3));
            REFUSALS.changesNothing("23 is(), field " + f, make, x -> x.is());
            REFUSALS.changesNothing("24 look(), field " + f, make, x -> x.look());
            REFUSALS.changesNothing("27 captains(-1), field " + f, make, x -> x.captains(-1));
            REFUSALS.changesNothing("27 captains(0), field " + f, make, x -> x.captains(0));
            REFUSALS.changesNothing("28 days(999999, 60), field " + f, make, x -> x.days(999999, 60));
            REFUSALS.changesNothing("13 worth(9, 0), field " + f, make, x -> x.worth(9, 0));
            REFUSALS.changesNothing("13 worth(9, 1), field " + f, make, x -> x.worth(9, 1));
            REFUSALS.changesNothing("29 part(0), field " + f, make, x -> x.part(0));
            REFUSALS.changesNothing("32 status(2), field " + f, make, x -> x.status(2));
            REFUSALS.changesNothing("33 count(11), field " + f, make, x -> x.count(11));
            REFUSALS.changesNothing("34 digest(), field " + f, make, PostRounders::digest);
            int size = make.make().count(0);
            for (int i = 0; i < size; i++) {
                int who = i;
                REFUSALS.changesNothing("12 of(i, 2), field " + f, make, x -> x.of(who, 2));
                REFUSALS.changesNothing("25 kinds(i), field " + f, make, x -> x.kinds(who));
                REFUSALS.changesNothing("26 ask(i), field " + f, make, x -> x.ask(who));
            }
            chanceAndMeanChangeTheFractionAlone(f, make);
        }
    }

    private static void chanceAndMeanChangeTheFractionAlone(int f, Fields.Make make) {
        REFUSALS.changesNothing("17 chance(4, 1) again, field " + f, () -> {
            PostRounders x = make.make();
            x.chance(4, 1);
            return x;
        }, x -> x.chance(4, 1));
        REFUSALS.changesNothing("18 mean(4) again, field " + f, () -> {
            PostRounders x = make.make();
            x.mean(4);
            return x;
        }, x -> x.mean(4));
        PostRounders asked = make.make();
        PostRounders silent = make.make();
        asked.chance(4, 1);
        for (int what = 0; what < 12; what++) {
            CHECK.due("17 count(" + what + ") behind chance, field " + f, asked.count(what), silent.count(what));
        }
    }
}
