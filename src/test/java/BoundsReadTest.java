/** Boundary cases of promise 7, read, and of the term THE TEXT: each clause of FAULT by itself. */
public final class BoundsReadTest {
    private static final Check CHECK = new Check("BoundsReadTest");
    private static final Refusals REFUSALS = new Refusals(CHECK);
    private static final String FIELD = "field 0;";
    private static final String ONE = FIELD + "batter 0 1;";
    private static final String SIX = FIELD + "batter 0 1;".repeat(6);

    public static void main(String[] args) {
        emptyText();
        blanksAlone();
        endsTooEarly();
        endsInsideAWord();
        wordThatIsNone();
        oneLetterOff();
        wordsNeighbours();
        fieldAgain();
        anythingAheadOfField();
        seventhBatter();
        oneToNineHits();
        tenthHit();
        stopWhereThereIsNone();
        noStopWhereThereShouldBeOne();
        hitWhenDone();
        hitWhenNobodyIsThere();
        runOfThreeFigures();
        oneOrTwoFigures();
        bowlersKindNotAsTold();
        battersKindNotAsTold();
        legsNotAsTold();
        hitNotAsTold();
        byteThatBeginsNone();
        blanksBetween();
        firstFaultCounts();
        howManyItems();
        batterComesWhenDone();
        ballsAreNumbered();
        takesThePlaceOfAll();
        keepsFourThings();
        CHECK.end();
    }

    /** "-10 less the FAULT: all stays", however it stands. */
    private static void fault(String text, int place) {
        for (Fields.Make make : new Fields.Make[] {Fields.NEW, Fields.MIDDLE, Fields.DONE}) {
            REFUSALS.refused("7 read() of '" + text + "'", () -> {
                PostRounders x = make.make();
                Check.write(x, text);
                return x;
            }, PostRounders::read, -10 - place, Refusals.NOT_COUNTED);
        }
    }

    private static PostRounders good(String text, int items) {
        PostRounders x = new PostRounders();
        CHECK.due("7 read() of '" + text + "'", Check.read(x, text), items);
        return x;
    }

    /** "the TEXT's length, if it ends too early (an empty one, too)". */
    private static void emptyText() {
        fault("", 0);
    }

    private static void blanksAlone() {
        fault(" ", 1);
        fault("     ", 5);
        fault(" ".repeat(150), 150);
    }

    /** "the TEXT's length, if it ends too early": behind each token but the last. */
    private static void endsTooEarly() {
        fault("field", 5);
        fault("field ", 6);
        fault("field 0", 7);
        fault("field 0   ", 10);
        good(FIELD, 1);
        fault(FIELD + "batter", 14);
        fault(FIELD + "batter 0", 16);
        fault(FIELD + "batter 0 1", 18);
        fault(FIELD + "batter 0 1  ", 20);
        good(ONE, 2);
        fault(ONE + "ball", 23);
        fault(ONE + "ball ", 24);
        fault(ONE + "ball 1", 25);
        fault(ONE + "ball 1 1", 27);
        good(ONE + "ball 1 1;", 3);
    }

    /** A word that is cut off is a word that is none. */
    private static void endsInsideAWord() {
        for (int length = 1; length <= 4; length++) {
            fault("field".substring(0, length), 0);
        }
        for (int length = 1; length <= 5; length++) {
            fault(FIELD + "batter".substring(0, length), 8);
        }
        for (int length = 1; length <= 3; length++) {
            fault(FIELD + "ball".substring(0, length), 8);
        }
    }

    /** "a word that is none". */
    private static void wordThatIsNone() {
        fault("x", 0);
        fault("fields 0;", 0);
        fault("ffield 0;", 0);
        fault("feild 0;", 0);
        fault("  bowler 0;", 2);
        fault(FIELD + "batters 0 1;", 8);
        fault(FIELD + "better 0 1;", 8);
        fault(ONE + "balls 1;", 19);
        fault(ONE + "bell 1;", 19);
        fault(ONE + "run 1;", 19);
        fault(ONE + " zzzzzzzzzz", 20);
        fault("fieldbatter", 0);
        fault(FIELD + "ballball 1;", 8);
    }

    /** Each single letter counts, the first and the last of a word and of a .. z as well. */
    private static void oneLetterOff() {
        for (char other : new char[] {'a', 'z'}) {
            for (int k = 0; k <= 5; k++) {
                wordWith("", "field", k, other, " 0;");
                wordWith(FIELD, "batter", k, other, " 0 1;");
                wordWith(ONE, "ball", k, other, " 1;");
            }
        }
        fault("wield 0;", 0);
        fault("fielz 0;", 0);
        fault("fieldz 0;", 0);
        fault("zfield 0;", 0);
        fault("field0z;", 6);
        fault("field 0z;", 7);
        fault("field0a;", 6);
        fault(FIELD + "latter 0 1;", 8);
        fault(ONE + "call 1;", 19);
        fault(ONE + "z", 19);
    }

    private static void wordWith(String ahead, String word, int k, char other, String behind) {
        if (k <= word.length()) {
            fault(ahead + word.substring(0, k) + other + word.substring(k) + behind, ahead.length());
        }
        if (k < word.length() && word.charAt(k) != other) {
            fault(ahead + word.substring(0, k) + other + word.substring(k + 1) + behind, ahead.length());
        }
    }

    /** Words that stand in the wrong place. */
    private static void wordsNeighbours() {
        fault("field field", 6);
        fault("field batter", 6);
        fault("field 0 batter", 8);
        fault(FIELD + "batter batter", 15);
        fault(FIELD + "batter 0 ball", 17);
        fault(FIELD + "batter 0 1 ball", 19);
        fault(ONE + "ball ball", 24);
        fault(ONE + "ball 1 ball", 26);
    }

    /** "field KIND (of THE BOWLER; once ..)", "field again". */
    private static void fieldAgain() {
        fault(FIELD + "field 0;", 8);
        fault(FIELD + "  field 1;", 10);
        fault(ONE + "field 0;", 19);
        fault(ONE + "ball 1;field 0;", 26);
        fault(ONE + "ball 1;field", 26);
    }

    /** "first of all", "anything ahead of it". */
    private static void anythingAheadOfField() {
        fault("batter 0 1;field 0;", 0);
        fault("ball 1;field 0;", 0);
        fault(" ball 1;field 0;", 1);
        fault(";field 0;", 0);
        fault("0 field 0;", 0);
        fault("  ;field 0;", 2);
    }

    /** "a 7th batter at its word"; the sixth is taken. */
    private static void seventhBatter() {
        CHECK.due("7 count(0)", good(SIX, 7).count(0), 6);
        fault(SIX + "batter 0 1;", 74);
        fault(SIX + "  batter 9 9;", 76);
        fault(SIX + "batter", 74);
        fault(SIX + "batter;", 74);
        fault(FIELD + "batter 0 1;".repeat(5) + "ball 0;batter 0 1;batter 0 1;", 81);
        CHECK.due("7 count(6)", good(SIX + "ball 1;", 8).count(6), 1);
    }

    /** "ball and 1 to 9 HITS": none is too few. */
    private static void oneToNineHits() {
        fault(ONE + "ball;", 23);
        fault(ONE + "ball ;", 24);
        for (int n = 1; n <= 9; n++) {
            CHECK.due("7 count(6)", good(ONE + "ball" + " 1".repeat(n) + ";", 3).count(6), n);
        }
    }

    /** "a 10th HIT" of one item; another item begins again. */
    private static void tenthHit() {
        fault(ONE + "ball 1 1 1 1 1 1 1 1 1 1;", 42);
        fault(ONE + "ball 1 1 1 1 1 1 1 1 1  05", 43);
        fault(ONE + "ball 1 1 1 1 1 1 1 1 1 1", 42);
        CHECK.due("7 count(6)", good(ONE + "ball 1 1 1 1 1 1 1 1 1;ball 1;", 4).count(6), 10);
    }

    /** "; where there is none". */
    private static void stopWhereThereIsNone() {
        fault(";", 0);
        fault("field;", 5);
        fault(FIELD + ";", 8);
        fault(FIELD + " ; ", 9);
        fault(FIELD + "batter;", 14);
        fault(FIELD + "batter 0;", 16);
        fault(ONE + ";", 19);
        fault(ONE + "ball 1;;", 26);
    }

    /** "ITEMS, each ended by ;". */
    private static void noStopWhereThereShouldBeOne() {
        fault("field 0 0;", 8);
        fault("field 0 batter 0 1;", 8);
        fault(FIELD + "batter 0 1 1;", 19);
        fault(FIELD + "batter 0 1 batter 0 1;", 19);
        fault(ONE + "ball 1 batter 0 1;", 26);
    }

    /** "a HIT when it is DONE", at that hit: what came before it is well. */
    private static void hitWhenDone() {
        fault(ONE + "ball 0 1;", 26);
        fault(ONE + "ball 0 0", 26);
        fault(ONE + "ball 2  5;", 27);
        fault(ONE + "ball 0;ball 1;", 31);
        fault(ONE + "ball 0;ball 10;", 31);
        fault(ONE + "ball 0;ball;", 30);
        fault(ONE + "ball 1 1 0 1 1;", 30);
        CHECK.due("7 count(4)", good(ONE + "ball 1 1 0;", 3).count(4), -1);
        CHECK.due("7 count(4)", good(ONE + "ball 2;", 3).count(4), -1);
    }

    /** "(nobody there, too)". */
    private static void hitWhenNobodyIsThere() {
        fault(FIELD + "ball 1;", 13);
        fault(FIELD + "ball 1;batter 0 1;", 13);
        fault(FIELD + "ball  0", 14);
        fault(FIELD + "ball;", 12);
        fault(FIELD + "ball", 12);
    }

    /** "a run of three figures or more (at its first one)". */
    private static void runOfThreeFigures() {
        fault("field 000;", 6);
        fault("field 001;", 6);
        fault("field 0000000000000000000000;", 6);
        fault("field 99999999999999999999;", 6);
        fault("field  123", 7);
        fault(FIELD + "batter 000 1;", 15);
        fault(FIELD + "batter 0 001;", 17);
        fault(ONE + "ball 001;", 24);
        fault(ONE + "ball 1 111;", 26);
        fault("000;", 0);
        fault("field 0 000;", 8);
    }

    /** "figures (1 or 2 are one number)". */
    private static void oneOrTwoFigures() {
        for (int kind = 0; kind <= 5; kind++) {
            CHECK.due("7 count(7)", good("field " + kind + ";", 1).count(7), kind);
            CHECK.due("7 count(7)", good("field 0" + kind + ";", 1).count(7), kind);
        }
        PostRounders x = good("field 00;batter 04 05;ball 09;", 3);
        CHECK.due("7 of(0, 0)", x.of(0, 0), 4);
        CHECK.due("7 of(0, 1)", x.of(0, 1), 5);
        CHECK.due("7 count(5)", x.count(5), 2);
        fault(FIELD + "batter 01;", 17);
        fault(ONE + "ball 11;", 24);
    }

    /** "a number not as told": KIND of THE BOWLER 0 .. 5. */
    private static void bowlersKindNotAsTold() {
        good("field 0;", 1);
        good("field 5;", 1);
        fault("field 6;", 6);
        fault("field 9;", 6);
        fault("field 06;", 6);
        fault("field 10;", 6);
        fault("field 50;", 6);
        fault("field 99;", 6);
    }

    /** "a number not as told": KIND of a BATTER 0 .. 5. */
    private static void battersKindNotAsTold() {
        for (int kind = 0; kind <= 5; kind++) {
            CHECK.due("7 of(0, 0)", good(FIELD + "batter " + kind + " 1;", 2).of(0, 0), kind);
        }
        fault(FIELD + "batter 6 1;", 15);
        fault(FIELD + "batter 10 1;", 15);
        fault(FIELD + "batter 99 1;", 15);
    }

    /** "a number not as told": LEGS 1 .. 5. */
    private static void legsNotAsTold() {
        for (int legs = 1; legs <= 5; legs++) {
            CHECK.due("7 of(0, 1)", good(FIELD + "batter 0 " + legs + ";", 2).of(0, 1), legs);
        }
        fault(FIELD + "batter 0 0;", 17);
        fault(FIELD + "batter 0 00;", 17);
        fault(FIELD + "batter 0 6;", 17);
        fault(FIELD + "batter 0 10;", 17);
        fault(FIELD + "batter 0 99;", 17);
    }

    /** "a number not as told": a HIT 0 .. 9. */
    private static void hitNotAsTold() {
        for (int h = 0; h <= 9; h++) {
            good(ONE + "ball " + h + ";", 3);
        }
        fault(ONE + "ball 10;", 24);
        fault(ONE + "ball 99;", 24);
        fault(ONE + "ball 1 10;", 26);
    }

    /** "a byte that begins none": beside a .. z, 0 .. 9, ; and the blank on both sides, and the ends 0 and 127. */
    private static void byteThatBeginsNone() {
        for (int c = 0; c <= 127; c++) {
            boolean letter = c >= 'a' && c <= 'z';
            boolean figure = c >= '0' && c <= '9';
            if (c == ' ' || letter || figure) {
                continue;
            }
            String sign = String.valueOf((char) c);
            if (c != ';') {
                fault("field 0" + sign + ";", 7);
                fault(FIELD + sign, 8);
                fault("field " + sign, 6);
                fault("fi" + sign + "eld 0;", 0);
            }
            fault(sign, 0);
            fault("field 0;" + sign + "batter 0 1;", 8);
            fault(ONE + "ball 1;" + sign, 26);
        }
        for (int c : new int[] {'a', 'z', 'A', 'Z'}) {
            fault(FIELD + (char) c + ";", 8);
        }
    }

    /** "blanks (32) between": none needed where a token ends by itself, and as many as one likes. */
    private static void blanksBetween() {
        good("field0;", 1);
        good("   field   0   ;   ", 1);
        good("field0;batter0 1;ball1 1;", 3);
        good("field 0;   batter   0   1   ;   ball   1   1   ;   ", 3);
        fault("f ield 0;", 0);
        fault("field 0;bat ter 0 1;", 8);
        fault("field 0 0;", 8);
        CHECK.due("7 of(0, 1)", good("field5;batter4 5;", 2).of(0, 1), 5);
    }

    /** "the first TOKEN that can not stand there": what is behind it is not looked at. */
    private static void firstFaultCounts() {
        fault("field 9;field 0;;;", 6);
        fault(FIELD + "batter 9 9;ball 99;?", 15);
        fault(FIELD + "?;;field", 8);
        fault(ONE + "ball 0 1 10 100 ?", 26);
        fault(SIX + "batter 6 0;?", 74);
    }

    /** "THE FIELD is read: how many ITEMS." */
    private static void howManyItems() {
        good(FIELD, 1);
        good(FIELD + "   ", 1);
        good(ONE, 2);
        good(ONE + "ball 1;", 3);
        good(ONE + "ball 1;ball 1;ball 1;ball 1;ball 1;ball 1;ball 1;ball 1;ball 1;", 11);
        StringBuilder most = new StringBuilder("field0;batter0 1;");
        int items = 2;
        while (most.length() + 6 <= 150) {
            most.append("ball1;");
            items++;
        }
        CHECK.due("7 count(6) of the most items", good(most.toString(), items).count(6), items - 2);
    }

    /** "if it was DONE, that one is NEXT", also in a text. */
    private static void batterComesWhenDone() {
        PostRounders x = good(ONE + "ball 0;batter 0 1;ball 0;batter 4 5;", 6);
        CHECK.due("7 count(4)", x.count(4), 2);
        CHECK.due("7 count(3)", x.count(3), 2);
        PostRounders y = good(ONE + "batter 0 1;ball 1;batter 0 1;ball 1;", 6);
        CHECK.due("7 count(4)", y.count(4), 2);
    }

    /** The balls of a text have numbers from 1 on, through all its items. */
    private static void ballsAreNumbered() {
        // a spinner: ball 4 comes to nothing
        PostRounders x = good("field 3;batter 0 1;batter 0 1;ball 1 1;ball 1 1;", 5);
        CHECK.due("7 count(6)", x.count(6), 4);
        CHECK.due("7 count(3)", x.count(3), 1);
        CHECK.due("7 of(1, 2)", x.of(1, 2), 4);
        CHECK.due("7 worth(5, 0) by ball 5", x.worth(5, 0), 5);
    }

    /** "A FIELD that is read takes the place of all but ..": as in a new object with the same calls. */
    private static void takesThePlaceOfAll() {
        for (int f = 0; f < Fields.ALL.length; f++) {
            PostRounders x = Fields.ALL[f].make();
            PostRounders y = new PostRounders();
            String text = "field 4;batter 2 5;batter 4 3;ball 9 9 1;";
            CHECK.due("7 read() in field " + f, Check.read(x, text), 4);
            Check.write(y, text);
            y.field(4);
            Check.batters(y, 2, 5, 4, 3);
            y.hits(9);
            y.hits(9);
            y.hits(1);
            for (int what = 0; what < 12; what++) {
                int due = what == 10 ? 0 : y.count(what);
                CHECK.due("7 count(" + what + ") in field " + f, x.count(what), due);
            }
            for (int i = 0; i < 2; i++) {
                CHECK.due("7 of(" + i + ", 2) in field " + f, x.of(i, 2), y.of(i, 2));
            }
            for (int k = 0; k < 8; k++) {
                CHECK.due("7 row(" + k + ", 5) in field " + f, x.row(k, 5), 5);
            }
            CHECK.due("7 undo() in field " + f, x.undo(), -3);
            CHECK.due("7 is() in field " + f, x.is(), 63);
            CHECK.due("7 kinds(0) in field " + f, x.kinds(0), 63);
        }
    }

    /** ".. all but IMAGES, THE TEXT, THE FRACTION, STATUS". */
    private static void keepsFourThings() {
        for (int f = 1; f < Fields.ALL.length; f++) {
            PostRounders x = Fields.ALL[f].make();
            PostRounders before = Fields.ALL[f].make();
            CHECK.due("7 read() in field " + f, x.read(), 4);
            CHECK.due("7 count(11) stays", x.count(11), before.count(11));
            CHECK.due("7 read() again", x.read(), 4);
            CHECK.due("7 part(0) stays", x.part(0), before.part(0));
            CHECK.due("7 part(1) stays", x.part(1), before.part(1));
            for (int what = 0; what < 3; what++) {
                CHECK.due("7 status(" + what + ") stays", x.status(what), before.status(what));
            }
            for (int i = 0; i < 2; i++) {
                CHECK.due("7 from(" + i + ")", x.from(i), 1);
                before.from(i);
                CHECK.due("7 image " + i + " stays", x.digest(), before.digest());
            }
        }
    }
}
