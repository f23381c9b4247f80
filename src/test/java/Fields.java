/** Fields as they may stand when a call comes, and all that can be seen of one. */
final class Fields {
    /** Makes a field, the same one each time. */
    interface Make {
        PostRounders make();
    }

    static final Make NEW = PostRounders::new;
    static final Make MIDDLE = Fields::middle;
    static final Make DONE = Fields::done;
    static final Make FULL = Fields::full;
    static final Make[] ALL = {NEW, MIDDLE, DONE, FULL};

    static final String TEXT = "field 4;batter 0 5;batter 3 2;ball 9 8 0;";

    private Fields() {
    }

    /** Five batters, of whom some wait, one is on a post and one is out; of all else there is some. */
    private static PostRounders middle() {
        PostRounders x = new PostRounders();
        x.field(2);
        Check.batters(x, 4, 5, 0, 2);
        x.hits(3);
        x.note(9, 9, 9);
        x.image(1);
        x.field(3);
        Check.batters(x, 2, 5, 0, 1, 4, 4, 5, 3, 1, 2);
        x.hits(0);
        x.sends(4);
        x.hits(9);
        x.row(0, 1);
        x.row(6, 9);
        x.note(1, 5, 5);
        x.mark(0, 1, 4, 1);
        x.image(0);
        x.hits(3);
        x.note(3, 4, 4);
        x.mark(4, 2, 6, 2);
        x.chance(3, 2);
        Check.write(x, TEXT);
        countSomeRefusals(x);
        return x;
    }

    /** One on each post but the first, one out: nobody to bat, but there is room for more. */
    private static PostRounders done() {
        PostRounders x = new PostRounders();
        x.field(1);
        Check.batters(x, 2, 5, 0, 1, 0, 1);
        x.image(0);
        x.mean(3);
        x.hits(9);
        x.hits(3);
        x.image(1);
        x.hits(0);
        x.row(7, 0);
        x.note(3, 6, 5);
        x.mark(2, 5, 5, 3);
        Check.write(x, TEXT);
        countSomeRefusals(x);
        return x;
    }

    /** Six batters, six notes, six marks, eight to be undone, 150 bytes of text. */
    private static PostRounders full() {
        PostRounders x = new PostRounders();
        x.field(5);
        Check.batters(x, 0, 1, 1, 2, 2, 3, 3, 4, 4, 5, 5, 5);
        x.image(1);
        for (int ball = 0; ball < 10; ball++) {
            x.hits(ball % 3 == 0 ? 9 : 4);
        }
        for (int k = 0; k < 6; k++) {
            x.note(20 + k, k, k + 1);
            x.mark(k, 5 - k % 5, k, k % 3);
        }
        x.image(0);
        x.chance(4, 3);
        Check.write(x, TEXT + " ".repeat(150 - TEXT.length()));
        x.batter(0, 1);
        countSomeRefusals(x);
        return x;
    }

    /** So that it would be seen if a call set STATUS back. */
    private static void countSomeRefusals(PostRounders x) {
        x.field(6);
        x.type(128);
        x.sends(x.count(4) < 0 ? 0 : x.count(4));
        x.row(8, 0);
    }

    /** What there is to see of an object, also what may be undone, the text and the images. */
    static long[] seen(PostRounders x) {
        long[] seen = new long[64];
        int used = seeUndone(x, seen, 0);
        seen[used++] = x.read();
        seen[used++] = x.digest();
        seen[used++] = x.clear();
        seen[used++] = x.from(0);
        used = seeUndone(x, seen, used);
        seen[used++] = x.from(1);
        used = seeUndone(x, seen, used);
        seen[used] = 1;
        return seen;
    }

    private static int seeUndone(PostRounders x, long[] seen, int used) {
        seen[used++] = x.digest();
        for (int left = x.count(10); left > 0; left--) {
            seen[used++] = x.undo();
            seen[used++] = x.digest();
        }
        return used;
    }
}
