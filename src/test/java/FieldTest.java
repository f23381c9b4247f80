/** Promises 1 to 7: a new object, field, bowler, batter, type, clear, read. */
public final class FieldTest {
    private static final Check CHECK = new Check("FieldTest");

    public static void main(String[] args) {
        newObject();
        field();
        bowler();
        batter();
        typeAndClear();
        readGood();
        readFaults();
        readKeepsAndReplaces();
        CHECK.end();
    }

    private static void newObject() {
        PostRounders x = new PostRounders();
        long[] counts = {0, 0, 0, 0, -1, 0, 0, 0, 0, 0, 0, 0};
        for (int what = 0; what < counts.length; what++) {
            CHECK.due("1 count(" + what + ")", x.count(what), counts[what]);
        }
        for (int k = 0; k < 8; k++) {
            CHECK.due("1 row(" + k + ", 0)", x.row(k, 0), 5);
        }
        CHECK.due("1 part(0)", x.part(0), 0);
        CHECK.due("1 part(1)", x.part(1), 1);
        for (int what = 0; what < 3; what++) {
            CHECK.due("1 status(" + what + ")", x.status(what), 0);
        }
        CHECK.due("1 from(0)", x.from(0), -3);
        CHECK.due("1 from(1)", x.from(1), -3);
    }

    private static void field() {
        PostRounders x = new PostRounders();
        CHECK.due("2 field(5)", x.field(5), 0);
        CHECK.due("2 count(7)", x.count(7), 5);
        Check.batters(x, 0, 1, 4, 5);
        x.hits(9);
        x.row(3, 9);
        x.note(1, 1, 1);
        x.mark(0, 1, 1, 1);
        Check.write(x, "ab");
        x.chance(1, 1);
        x.field(9);
        long above = x.part(0);
        long below = x.part(1);
        CHECK.due("2 field(-1)", x.field(-1), -2);
        CHECK.due("2 field(6)", x.field(6), -2);
        CHECK.due("2 count(0) when refused", x.count(0), 2);
        x.image(1);
        CHECK.due("2 field(3)", x.field(3), 2);
        long[] counts = {0, 0, 0, 0, -1, 0, 0, 3, 0, 0, 0, 2};
        for (int what = 0; what < counts.length; what++) {
            CHECK.due("2 count(" + what + ")", x.count(what), counts[what]);
        }
        CHECK.due("2 row(3, 5)", x.row(3, 5), 5);
        CHECK.due("2 part(0)", x.part(0), above);
        CHECK.due("2 part(1)", x.part(1), below);
        CHECK.due("2 status(0)", x.status(0), 3);
        CHECK.due("2 from(1)", x.from(1), 1);
        CHECK.due("2 count(0) from the image", x.count(0), 2);
    }

    private static void bowler() {
        PostRounders x = new PostRounders();
        CHECK.due("3 bowler(4)", x.bowler(4), 0);
        CHECK.due("3 bowler(6)", x.bowler(6), -2);
        CHECK.due("3 bowler(-1)", x.bowler(-1), -2);
        CHECK.due("3 bowler(5)", x.bowler(5), 4);
        Check.batters(x, 0, 1, 0, 1);
        x.hits(9);
        CHECK.due("3 bowler(6) leaves what may be undone", x.bowler(6) * 10 + x.count(10), -19);
        CHECK.due("3 bowler(5)", x.bowler(5), 5);
        CHECK.due("3 count(10)", x.count(10), 0);
        CHECK.due("3 undo()", x.undo(), -3);
        CHECK.due("3 count(6)", x.count(6), 1);
    }

    private static void batter() {
        PostRounders x = new PostRounders();
        CHECK.due("4 batter(-1, 1)", x.batter(-1, 1), -2);
        CHECK.due("4 batter(6, 1)", x.batter(6, 1), -2);
        CHECK.due("4 batter(0, 0)", x.batter(0, 0), -2);
        CHECK.due("4 batter(0, 6)", x.batter(0, 6), -2);
        CHECK.due("4 batter(2, 4)", x.batter(2, 4), 0);
        CHECK.due("4 count(4)", x.count(4), 0);
        CHECK.due("4 batter(3, 5)", x.batter(3, 5), 1);
        CHECK.due("4 count(4) is still", x.count(4), 0);
        x.hits(9);
        CHECK.due("4 batter(6, 6) leaves what may be undone", x.batter(6, 6) * 10 + x.count(10), -19);
        CHECK.due("4 batter(1, 1)", x.batter(1, 1), 2);
        CHECK.due("4 count(10)", x.count(10), 0);
        for (int i = 3; i < 6; i++) {
            CHECK.due("4 batter(5, 5)", x.batter(5, 5), i);
        }
        CHECK.due("4 batter(5, 5)", x.batter(5, 5), -4);
        CHECK.due("4 batter(5, 6) is bad first", x.batter(5, 6), -2);
        CHECK.due("4 status(2)", x.status(2), 1);
        CHECK.due("4 status(0)", x.status(0), 6);

        PostRounders y = new PostRounders();
        Check.batters(y, 0, 5, 0, 5);
        y.hits(0);
        y.hits(0);
        CHECK.due("4 count(4) when done", y.count(4), -1);
        y.batter(0, 5);
        CHECK.due("4 count(4) by who comes when done", y.count(4), 2);
    }

    private static void typeAndClear() {
        PostRounders x = new PostRounders();
        CHECK.due("5 type(-1)", x.type(-1), -2);
        CHECK.due("5 type(128)", x.type(128), -2);
        CHECK.due("5 type(0)", x.type(0), 1);
        CHECK.due("5 type(127)", x.type(127), 2);
        for (int k = 3; k <= 150; k++) {
            CHECK.due("5 type(32)", x.type(32), k);
        }
        CHECK.due("5 type(32)", x.type(32), -4);
        CHECK.due("5 type(200) is bad first", x.type(200), -2);
        CHECK.due("5 count(11)", x.count(11), 150);
        CHECK.due("6 clear()", x.clear(), 150);
        CHECK.due("6 clear()", x.clear(), 0);
        CHECK.due("6 count(11)", x.count(11), 0);
        CHECK.due("6 status(0)", x.status(0), 3);
        CHECK.due("6 status(2)", x.status(2), 1);
        CHECK.due("6 type(65)", x.type(65), 1);
    }

    private static void readGood() {
        PostRounders x = new PostRounders();
        CHECK.due("7 the least text", Check.read(x, "field 4;"), 1);
        CHECK.due("7 count(7)", x.count(7), 4);
        CHECK.due("7 blanks, none and many", Check.read(x, "  field05  ;batter0 05;batter 1 2 ; ball 1 2;  "), 4);
        CHECK.due("7 count(7)", x.count(7), 5);
        CHECK.due("7 of(0, 1)", x.of(0, 1), 5);
        CHECK.due("7 of(1, 0)", x.of(1, 0), 1);
        CHECK.due("7 count(6)", x.count(6), 2);
        CHECK.due("7 batters between balls",
                Check.read(x, "field 0;batter 0 1;ball 2;batter 2 5;ball 09;batter 3 5;ball 1;"), 7);
        CHECK.due("7 count(5)", x.count(5), 2);
        CHECK.due("7 count(0)", x.count(0), 3);
        CHECK.due("7 nine hits", Check.read(x, "field 0;batter 0 1;ball 1 1 1 1 1 1 1 1 1;"), 3);
        CHECK.due("7 count(6)", x.count(6), 9);
        String six = "field 0;batter 0 1;batter 0 1;batter 0 1;batter 0 1;batter 0 1;batter 0 1;";
        CHECK.due("7 six batters", Check.read(x, six), 7);
        CHECK.due("7 the text stays", x.count(11), six.length());
        CHECK.due("7 read() again", x.read(), 7);
    }

    private static void fault(String text, int place) {
        PostRounders x = new PostRounders();
        Check.batters(x, 2, 2);
        x.hits(9);
        Check.write(x, text);
        long before = x.digest();
        CHECK.due("7 fault of '" + text + "'", x.read(), -10 - place);
        CHECK.due("7 all stays by '" + text + "'", x.digest(), before);
        CHECK.due("7 status by '" + text + "'", x.status(0) + x.status(1) + x.status(2), 0);
    }

    private static void readFaults() {
        fault("", 0);
        fault("   ", 3);
        fault("field", 5);
        fault("field 3", 7);
        fault("field 3 ", 8);
        fault("fiel 3;", 0);
        fault(" fields 3;", 1);
        fault("Field 3;", 0);
        fault("wield 3;", 0);
        fault("fiels 3;", 0);
        fault("fieldz 3;", 0);
        fault("fielda 3;", 0);
        fault("field3field", 6);
        fault("field 0;batten 0 1;", 8);
        fault("field 0;call 1;", 8);
        fault("field 0;bald 1;", 8);
        fault("batter 0 1;", 0);
        fault("ball 1;", 0);
        fault("3;", 0);
        fault(";", 0);
        fault("field;", 5);
        fault("field 6;", 6);
        fault("field 10;", 6);
        fault("field 000;", 6);
        fault("field 0123;", 6);
        fault("field 0 0;", 8);
        fault("field 0;field 0;", 8);
        fault("field 0; ;", 9);
        fault("field 0;0;", 8);
        fault("field 0;bat 0 1;", 8);
        fault("field 0;\tball 1;", 8);
        fault("field 0;batter", 14);
        fault("field 0;batter;", 14);
        fault("field 0;batter 6 1;", 15);
        fault("field 0;batter 0;", 16);
        fault("field 0;batter 0 0;", 17);
        fault("field 0;batter 0 6;", 17);
        fault("field 0;batter 0 1 1;", 19);
        fault("field 0;batter 0 1", 18);
        fault("field 0;batter 01;", 17);
        fault("field 0;ball", 12);
        fault("field 0;ball;", 12);
        fault("field 0;ball 5;", 13);
        fault("field 0;batter 0 5;ball 10;", 24);
        fault("field 0;batter 0 5;ball 5 ball;", 26);
        fault("field 0;batter 0 5;ball 5", 25);
        fault("field 0;batter 0 5;ball 0 1;", 26);
        fault("field 0;batter 0 5;ball 0;ball 1;", 31);
        fault("field 0;batter 0 5;ball 1;ball 1;ball 1;", 31);
        fault("field 0;batter 0 1;ball 1 1 1 1 1 1 1 1 1 1;", 42);
        fault("field 0;batter 0 1;ball 1 1 1 1 1 1 1 1 1", 41);
        fault("field 0;batter 0 1;batter 0 1;batter 0 1;batter 0 1;batter 0 1;batter 0 1; batter 0 1;", 75);
        fault("field 0;batter 0 1;batter 0 1;batter 0 1;batter 0 1;batter 0 1;batter 0 1;batter", 74);
        fault("field -1;", 6);
        fault("field 0;batter 0,1;", 16);
    }

    private static void readKeepsAndReplaces() {
        PostRounders x = new PostRounders();
        Check.batters(x, 0, 1, 4, 5, 3, 3);
        x.hits(9);
        x.row(3, 9);
        x.note(1, 1, 1);
        x.mark(0, 1, 1, 1);
        x.mean(1);
        long above = x.part(0);
        x.image(0);
        x.hits(77);
        CHECK.due("7 read()", Check.read(x, "field 2;batter 1 5;ball 9;"), 3);
        long[] counts = {1, 1, 0, 0, 0, 2, 1, 2, 0, 0, 0, 26};
        for (int what = 0; what < counts.length; what++) {
            CHECK.due("7 count(" + what + ")", x.count(what), counts[what]);
        }
        CHECK.due("7 row(3, 5)", x.row(3, 5), 5);
        CHECK.due("7 part(0)", x.part(0), above);
        CHECK.due("7 status(0)", x.status(0), 1);
        CHECK.due("7 undo()", x.undo(), -3);
        CHECK.due("7 from(0)", x.from(0), 1);
        CHECK.due("7 count(0) from the image", x.count(0), 3);
        CHECK.due("7 count(10) from the image", x.count(10), 1);
    }
}
