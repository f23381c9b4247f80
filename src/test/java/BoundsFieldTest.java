/** Boundary cases of promises 1 to 7 and of the terms they stand on, each sentence by itself. */
public final class BoundsFieldTest {
    private static final Check CHECK = new Check("BoundsFieldTest");
    private static final Refusals REFUSALS = new Refusals(CHECK);
    private static final int[] AT_FIRST = {0, 0, 0, 0, -1, 0, 0, 0, 0, 0, 0, 0};
    private static final String SIX = "field 0;batter 0 1;batter 0 1;batter 0 1;batter 0 1;batter 0 1;batter 0 1;";

    public static void main(String[] args) {
        atFirstThereIsNothing();
        bowlerIsPlainAtFirst();
        fractionAtFirst();
        statusAtFirst();
        noImageAtFirst();
        battersHaveNumbersAsTheyCome();
        everyKindWithAllLegs();
        battersWaitAtFirst();
        nextIsTheFirstThatComes();
        whoComesWhenDoneIsNext();
        whoComesWhenNotDoneOnlyWaits();
        fieldTellsHowManyThereWere();
        fieldSetsAllBack();
        fieldKeepsFourThings();
        bowlerTellsWhatItWas();
        bowlerChangesNothingElse();
        bowlerLeavesNothingToUndo();
        batterLeavesNothingToUndo();
        textTakes150();
        clearTellsHowManyItHad();
        clearAndTypeChangeTheTextAlone();
        CHECK.end();
    }

    private static void counts(String name, PostRounders x, int... due) {
        for (int what = 0; what < due.length; what++) {
            CHECK.due(name + ", count(" + what + ")", x.count(what), due[what]);
        }
    }

    private static void rowAsAtFirst(String name, PostRounders x) {
        for (int k = 0; k < 8; k++) {
            CHECK.due(name + ", row(" + k + ", 5)", x.row(k, 5), 5);
        }
    }

    /** "As told; no BATTERS." "POINTS (.. 0 at first)", "BALLS .. 0 at first", "all 5 at first". */
    private static void atFirstThereIsNothing() {
        PostRounders x = new PostRounders();
        counts("1 at first", x, AT_FIRST);
        rowAsAtFirst("1 at first", x);
    }

    /** "THE BOWLER has a KIND (0 at first)." */
    private static void bowlerIsPlainAtFirst() {
        PostRounders x = new PostRounders();
        CHECK.due("1 bowler(0) at first", x.bowler(0), 0);
        for (int h = 0; h <= 9; h++) {
            CHECK.due("1 worth(" + h + ", 0) at first", x.worth(h, 0), h);
        }
    }

    /** "THE FRACTION is 0 by 1 at first". */
    private static void fractionAtFirst() {
        PostRounders x = new PostRounders();
        CHECK.due("1 part(0) at first", x.part(0), 0);
        CHECK.due("1 part(1) at first", x.part(1), 1);
    }

    private static void statusAtFirst() {
        PostRounders x = new PostRounders();
        for (int what = 0; what < 3; what++) {
            CHECK.due("1 status(" + what + ") at first", x.status(what), 0);
        }
    }

    private static void noImageAtFirst() {
        PostRounders x = new PostRounders();
        CHECK.due("1 from(0) at first", x.from(0), -3);
        CHECK.due("1 from(1) at first", x.from(1), -3);
    }

    /** "BATTERS 0 .. 5, as they come": the sixth has number 5, a seventh has none. */
    private static void battersHaveNumbersAsTheyCome() {
        PostRounders x = new PostRounders();
        for (int i = 0; i <= 5; i++) {
            CHECK.due("4 batter " + i, x.batter(i, 5 - i % 5), i);
            CHECK.due("4 count(0)", x.count(0), i + 1);
        }
        CHECK.due("4 a seventh", x.batter(0, 1), -4);
        CHECK.due("4 count(0)", x.count(0), 6);
        for (int i = 0; i <= 5; i++) {
            CHECK.due("4 of(" + i + ", 0)", x.of(i, 0), i);
            CHECK.due("4 of(" + i + ", 1)", x.of(i, 1), 5 - i % 5);
        }
    }

    /** "a KIND, LEGS (1 .. 5)". */
    private static void everyKindWithAllLegs() {
        PostRounders x = new PostRounders();
        for (int kind = 0; kind <= 5; kind++) {
            for (int legs = 1; legs <= 5; legs++) {
                x.field(0);
                CHECK.due("4 batter(" + kind + ", " + legs + ")", x.batter(kind, legs), 0);
                CHECK.due("4 of(0, 0)", x.of(0, 0), kind);
                CHECK.due("4 of(0, 1)", x.of(0, 1), legs);
            }
        }
    }

    /** "each WAITS (at first)", also in the place of one who was out before. */
    private static void battersWaitAtFirst() {
        PostRounders x = new PostRounders();
        for (int round = 0; round < 2; round++) {
            for (int i = 0; i < 6; i++) {
                x.batter(0, 1);
                CHECK.due("4 of(" + i + ", 2) at first", x.of(i, 2), 0);
            }
            CHECK.due("4 count(1) at first", x.count(1), 6);
            for (int ball = 0; ball < 6; ball++) {
                x.hits(0);
            }
            CHECK.due("4 count(3)", x.count(3), 6);
            x.field(0);
        }
    }

    /** "At first NEXT is BATTER 0, as soon as there is one". */
    private static void nextIsTheFirstThatComes() {
        PostRounders x = new PostRounders();
        CHECK.due("4 count(4), nobody", x.count(4), -1);
        x.batter(6, 1);
        CHECK.due("4 count(4), one refused", x.count(4), -1);
        for (int i = 0; i < 6; i++) {
            x.batter(0, 1);
            CHECK.due("4 count(4) behind batter " + i, x.count(4), 0);
        }
    }

    /** "if it was DONE, that one is NEXT". */
    private static void whoComesWhenDoneIsNext() {
        PostRounders x = new PostRounders();
        for (int i = 0; i < 6; i++) {
            x.batter(0, 1);
            CHECK.due("4 count(4) by " + i + " who comes when done", x.count(4), i);
            x.hits(i % 2 == 0 ? 0 : 2);
            CHECK.due("4 count(4), done again", x.count(4), -1);
        }
        CHECK.due("4 batter(0, 1), six there and done", x.batter(0, 1), -4);
        CHECK.due("4 count(4), still done", x.count(4), -1);
    }

    /** "who comes WAITS": NEXT stays who it was, and that one comes in his turn. */
    private static void whoComesWhenNotDoneOnlyWaits() {
        PostRounders x = new PostRounders();
        Check.batters(x, 0, 1, 0, 1);
        x.hits(1);
        CHECK.due("4 count(4)", x.count(4), 1);
        x.batter(0, 1);
        CHECK.due("4 count(4) stays", x.count(4), 1);
        CHECK.due("4 of(2, 2)", x.of(2, 2), 0);
        x.hits(1);
        CHECK.due("4 count(4): in his turn", x.count(4), 2);
    }

    /** "field: .. how many BATTERS there were": none, some, all. */
    private static void fieldTellsHowManyThereWere() {
        int[] sizes = {0, 5, 3, 6};
        for (int f = 0; f < sizes.length; f++) {
            CHECK.due("2 field(0) in field " + f, Fields.ALL[f].make().field(0), sizes[f]);
        }
        PostRounders x = new PostRounders();
        for (int size = 0; size <= 6; size++) {
            for (int i = 0; i < size; i++) {
                x.batter(0, 1);
            }
            CHECK.due("2 field(5), " + size + " there", x.field(5), size);
            CHECK.due("2 field(5), none there", x.field(5), 0);
        }
    }

    /** "THE BOWLER's KIND; all else as at first". */
    private static void fieldSetsAllBack() {
        for (int f = 0; f < Fields.ALL.length; f++) {
            for (int kind = 0; kind <= 5; kind++) {
                PostRounders x = Fields.ALL[f].make();
                int text = x.count(11);
                x.field(kind);
                String name = "2 field(" + kind + ") in field " + f;
                counts(name, x, 0, 0, 0, 0, -1, 0, 0, kind, 0, 0, 0, text);
                rowAsAtFirst(name, x);
                CHECK.due(name + ", undo()", x.undo(), -3);
                CHECK.due(name + ", is()", x.is(), 63);
                CHECK.due(name + ", of(0, 0)", x.of(0, 0), -2);
                CHECK.due(name + ", batter(0, 1)", x.batter(0, 1), 0);
                CHECK.due(name + ", of(0, 2)", x.of(0, 2), 0);
                CHECK.due(name + ", kinds(0)", x.kinds(0), 63);
            }
        }
    }

    /** "(but for IMAGES, THE TEXT, THE FRACTION, STATUS)". */
    private static void fieldKeepsFourThings() {
        for (int f = 1; f < Fields.ALL.length; f++) {
            PostRounders before = Fields.ALL[f].make();
            PostRounders x = Fields.ALL[f].make();
            x.field(1);
            for (int what = 0; what < 3; what++) {
                CHECK.due("2 status(" + what + ") stays", x.status(what), before.status(what));
            }
            CHECK.due("2 part(0) stays", x.part(0), before.part(0));
            CHECK.due("2 part(1) stays", x.part(1), before.part(1));
            for (int i = 0; i < 2; i++) {
                CHECK.due("2 from(" + i + ")", x.from(i), 1);
                before.from(i);
                CHECK.due("2 image " + i + " stays", x.digest(), before.digest());
            }
            CHECK.due("2 the text stays", x.read(), before.read());
            CHECK.due("2 the text's field", x.digest(), before.digest());
        }
    }

    /** "bowler: THE BOWLER's KIND: what it was." */
    private static void bowlerTellsWhatItWas() {
        PostRounders x = new PostRounders();
        int was = 0;
        for (int kind : new int[] {5, 5, 0, 4, 1, 3, 2, 0}) {
            CHECK.due("3 bowler(" + kind + ")", x.bowler(kind), was);
            CHECK.due("3 count(7)", x.count(7), kind);
            was = kind;
        }
        CHECK.due("3 bowler(6)", x.bowler(6), -2);
        CHECK.due("3 count(7) stays", x.count(7), 0);
    }

    /** Batters, balls, points, the row, notes and marks stay under another bowler. */
    private static void bowlerChangesNothingElse() {
        for (int f = 0; f < Fields.ALL.length; f++) {
            PostRounders x = Fields.ALL[f].make();
            PostRounders before = Fields.ALL[f].make();
            x.bowler(4);
            for (int what = 0; what < 12; what++) {
                int due = what == 7 ? 4 : what == 10 ? 0 : before.count(what);
                CHECK.due("3 count(" + what + ") in field " + f, x.count(what), due);
            }
            for (int i = 0; i < before.count(0); i++) {
                for (int what = 0; what < 3; what++) {
                    CHECK.due("3 of(" + i + ", " + what + ")", x.of(i, what), before.of(i, what));
                }
            }
            for (int k = 0; k < 8; k++) {
                CHECK.due("3 row(" + k + ", 0)", x.row(k, 0), before.row(k, 0));
            }
            CHECK.due("3 is()", x.is(), before.is());
        }
    }

    /** "behind THE BOWLER told .. none may be [undone]", also when the same one is told; a refused one leaves it. */
    private static void bowlerLeavesNothingToUndo() {
        for (int kind = 0; kind <= 5; kind++) {
            PostRounders x = Fields.FULL.make();
            x.bowler(-1);
            x.bowler(6);
            CHECK.due("3 count(10), refused", x.count(10), 8);
            x.bowler(kind);
            CHECK.due("3 count(10) behind bowler(" + kind + ")", x.count(10), 0);
            CHECK.due("3 undo() behind bowler(" + kind + ")", x.undo(), -3);
        }
    }

    /** "behind .. a BATTER that comes none may be [undone]"; a refused one leaves it. */
    private static void batterLeavesNothingToUndo() {
        PostRounders x = Fields.MIDDLE.make();
        x.batter(6, 1);
        CHECK.due("4 count(10), bad", x.count(10), 4);
        x.batter(0, 1);
        CHECK.due("4 count(10)", x.count(10), 0);
        CHECK.due("4 undo()", x.undo(), -3);
        x.hits(9);
        CHECK.due("4 count(10), a ball", x.count(10), 1);
        CHECK.due("4 batter(0, 1), full", x.batter(0, 1), -4);
        CHECK.due("4 count(10), full", x.count(10), 1);
        CHECK.due("4 undo() of the ball", x.undo(), 3);
    }

    /** "a TEXT (150 bytes at most)"; "A byte (0 .. 127) comes behind THE TEXT: how many it has." */
    private static void textTakes150() {
        PostRounders x = new PostRounders();
        for (int k = 1; k <= 150; k++) {
            CHECK.due("5 type, byte " + k, x.type(k % 128), k);
        }
        CHECK.due("5 type, byte 151", x.type(32), -4);
        CHECK.due("5 count(11)", x.count(11), 150);
        String nine = "ball 1 1 1 1 1 1 1 1 1;";
        String text = SIX + nine + nine + nine;
        Check.write(x, text + " ".repeat(149 - text.length()));
        CHECK.due("7 read() of 149 bytes", x.read(), 10);
        CHECK.due("5 type(59), byte 150", x.type(';'), 150);
        CHECK.due("7 read(): the 150th byte is a fault", x.read(), -10 - 149);
        Check.write(x, text + " ".repeat(150 - text.length()));
        CHECK.due("7 read() of 150 bytes", x.read(), 10);
        CHECK.due("5 type(59), byte 151", x.type(';'), -4);
        CHECK.due("7 read(): the 151st byte is not there", x.read(), 10);
    }

    /** "THE TEXT is empty: how many it had." */
    private static void clearTellsHowManyItHad() {
        PostRounders x = new PostRounders();
        CHECK.due("6 clear(), empty", x.clear(), 0);
        x.type('f');
        CHECK.due("6 clear(), one", x.clear(), 1);
        CHECK.due("6 clear(), empty again", x.clear(), 0);
        CHECK.due("6 read() of nothing", x.read(), -10);
        PostRounders full = Fields.FULL.make();
        CHECK.due("6 clear(), full", full.clear(), 150);
        CHECK.due("6 count(11)", full.count(11), 0);
        CHECK.due("6 type(32), behind full", full.type(32), 1);
        CHECK.due("6 read() sees nothing of the old text", full.read(), -11);
    }

    /** But for the text all stays behind clear, and behind type. */
    private static void clearAndTypeChangeTheTextAlone() {
        REFUSALS.changesNothing("6 clear(), and the same text again", Fields.MIDDLE, x -> {
            Check.write(x, Fields.TEXT);
            return 0;
        });
        REFUSALS.changesNothing("6 clear(), and the same text again, done", Fields.DONE, x -> {
            Check.write(x, Fields.TEXT);
            return 0;
        });
    }
}
