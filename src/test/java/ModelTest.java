import java.util.Random;

/** Promises 1 to 34: runs of calls at random, each answer compared with the plain model's. */
public final class ModelTest {
    private static final Check CHECK = new Check("ModelTest");
    private static final int RUNS = 150;
    private static final int CALLS = 400;

    private final Random random;
    private final PostRounders x = new PostRounders();
    private final Model m = new Model();

    private ModelTest(long seed) {
        random = new Random(seed);
    }

    public static void main(String[] args) {
        for (int run = 0; run < RUNS; run++) {
            ModelTest test = new ModelTest(run);
            for (int call = 0; call < CALLS; call++) {
                String name = test.call();
                String told = "run " + run + ", call " + call + ", " + name;
                CHECK.due(told + ": digest()", test.x.digest(), test.m.digest());
                for (int what = 0; what < 3; what++) {
                    CHECK.due(told + ": status(" + what + ")", test.x.status(what), test.m.status(what));
                }
            }
        }
        for (int seed = 0; seed < 4000; seed++) {
            new ModelTest(seed).restingPairs();
        }
        CHECK.end();
    }

    /** Pairs that rest are few, so they have states of their own. */
    private void restingPairs() {
        int kind = random.nextInt(6);
        due("field(" + kind + ")", x.field(kind), m.field(kind));
        int size = 1 + random.nextInt(5);
        for (int i = 0; i < size; i++) {
            int batterKind = random.nextInt(6);
            int legs = 1 + random.nextInt(5);
            due("batter", x.batter(batterKind, legs), m.batter(batterKind, legs));
        }
        for (int k = 0; k < 4; k++) {
            int h = random.nextInt(10);
            due("row", x.row(k, h), m.row(k, h));
        }
        int balls = random.nextInt(8);
        for (int k = 0; k < balls; k++) {
            int h = 1 + random.nextInt(9);
            due("hits", x.hits(h), m.hits(h));
        }
        int found = m.captains(-1);
        due("captains(-1)", x.captains(-1), found);
        for (int k = 0; k <= found; k++) {
            due("captains(" + k + ")", x.captains(k), m.captains(k));
        }
        for (int n = 1; n <= 8; n++) {
            due("against(" + n + ", 0)", x.against(n, 0), m.against(n, 0));
        }
    }

    /** A number of least .. most, now and then one beside them. */
    private int pick(int least, int most) {
        int way = random.nextInt(40);
        if (way == 0) {
            return least - 1;
        }
        if (way == 1) {
            return most + 1;
        }
        return least + random.nextInt(most - least + 1);
    }

    private int someBatter() {
        return pick(0, Math.max(0, m.count(0) - 1));
    }

    private String due(String call, long got, long want) {
        CHECK.due(call, got, want);
        return call;
    }

    private String call() {
        int way = random.nextInt(100);
        if (way < 30) {
            int h = random.nextInt(3) == 0 ? pick(0, 9) : pick(1, 9);
            return due("hits(" + h + ")", x.hits(h), m.hits(h));
        }
        if (way < 36) {
            int kind = pick(0, 5);
            int legs = pick(1, 5);
            return due("batter(" + kind + ", " + legs + ")", x.batter(kind, legs), m.batter(kind, legs));
        }
        if (way < 40) {
            int i = someBatter();
            return due("sends(" + i + ")", x.sends(i), m.sends(i));
        }
        if (way < 45) {
            int k = pick(0, 7);
            int h = pick(0, 9);
            return due("row(" + k + ", " + h + ")", x.row(k, h), m.row(k, h));
        }
        if (way < 60) {
            return tellField();
        }
        return way < 80 ? forecast() : seenAndKept();
    }

    private String tellField() {
        switch (random.nextInt(15)) {
            case 0: {
                int kind = pick(0, 5);
                return due("field(" + kind + ")", x.field(kind), m.field(kind));
            }
            case 1: case 2: {
                int kind = pick(0, 5);
                return due("bowler(" + kind + ")", x.bowler(kind), m.bowler(kind));
            }
            case 3: case 4: {
                int c = pick(0, 127);
                return due("type(" + c + ")", x.type(c), m.type(c));
            }
            case 5:
                return due("clear()", x.clear(), m.clear());
            case 6: case 7: {
                String text = someText();
                due("clear()", x.clear(), m.clear());
                for (int k = 0; k < text.length(); k++) {
                    due("type()", x.type(text.charAt(k)), m.type(text.charAt(k)));
                }
                return due("read() of '" + text + "'", x.read(), m.read());
            }
            case 8: {
                int i = someBatter();
                int what = pick(0, 2);
                return due("of(" + i + ", " + what + ")", x.of(i, what), m.of(i, what));
            }
            case 9: {
                int h = pick(0, 9);
                int what = pick(0, 1);
                return due("worth(" + h + ", " + what + ")", x.worth(h, what), m.worth(h, what));
            }
            default:
                return due("undo()", x.undo(), m.undo());
        }
    }

    private String someText() {
        StringBuilder b = new StringBuilder("field " + pick(0, 5) + ";");
        int items = random.nextInt(12);
        for (int k = 0; k < items; k++) {
            if (random.nextInt(3) > 0) {
                b.append("batter ").append(pick(0, 5)).append(' ').append(pick(1, 5)).append(';');
            } else {
                b.append("ball");
                int hits = 1 + random.nextInt(4);
                for (int h = 0; h < hits; h++) {
                    b.append(random.nextInt(5) == 0 ? " 0" : " ").append(random.nextInt(10));
                }
                b.append(';');
            }
        }
        String signs = " ;;059ab-f";
        int changes = random.nextInt(3);
        for (int k = 0; k < changes && random.nextBoolean(); k++) {
            int at = random.nextInt(b.length());
            if (random.nextBoolean()) {
                b.deleteCharAt(at);
            } else {
                b.insert(at, signs.charAt(random.nextInt(signs.length())));
            }
        }
        return b.toString();
    }

    private String forecast() {
        switch (random.nextInt(8)) {
            case 0: {
                int n = pick(0, 8);
                return due("score(" + n + ")", x.score(n), m.score(n));
            }
            case 1: {
                int n = pick(1, 8);
                int k = pick(-1, 6);
                return due("order(" + n + ", " + k + ")", x.order(n, k), m.order(n, k));
            }
            case 2: {
                int n = pick(1, 8);
                int what = pick(0, 1);
                return due("against(" + n + ", " + what + ")", x.against(n, what), m.against(n, what));
            }
            case 3: {
                int n = random.nextInt(6) == 0 ? 4 : pick(0, 3);
                int least = random.nextInt(3) == 0 ? pick(0, 20) : pick(0, 6);
                return due("chance(" + n + ", " + least + ")", x.chance(n, least), m.chance(n, least));
            }
            case 4: {
                int n = random.nextInt(6) == 0 ? 4 : pick(0, 3);
                return due("mean(" + n + ")", x.mean(n), m.mean(n));
            }
            case 5: {
                int n = pick(1, 3);
                return due("send(" + n + ")", x.send(n), m.send(n));
            }
            case 6: {
                int k = pick(-1, 8);
                return due("captains(" + k + ")", x.captains(k), m.captains(k));
            }
            default: {
                int seed = pick(0, 999999);
                int n = pick(0, 60);
                return due("days(" + seed + ", " + n + ")", x.days(seed, n), m.days(seed, n));
            }
        }
    }

    private String seenAndKept() {
        switch (random.nextInt(14)) {
            case 0: case 1: {
                int t = pick(0, 99);
                int h = pick(0, 9);
                int g = random.nextInt(8) == 0 ? pick(0, 20) : Model.comes(random.nextInt(6), Math.max(0, h), Math.max(0, t));
                return due("note(" + t + ", " + h + ", " + g + ")", x.note(t, h, g), m.note(t, h, g));
            }
            case 2: case 3: {
                int i = someBatter();
                int l = pick(1, 5);
                int g = pick(0, 20);
                int posts = random.nextInt(8) == 0 ? pick(0, 9) : Model.runs(random.nextInt(6), Math.max(0, l), Math.max(0, g));
                return due("mark(" + i + ", " + l + ", " + g + ", " + posts + ")", x.mark(i, l, g, posts), m.mark(i, l, g, posts));
            }
            case 4: {
                int what = pick(0, 1);
                return due("forget(" + what + ")", x.forget(what), m.forget(what));
            }
            case 5:
                return due("is()", x.is(), m.is());
            case 6:
                return due("look()", x.look(), m.look());
            case 7: {
                int i = someBatter();
                return due("kinds(" + i + ")", x.kinds(i), m.kinds(i));
            }
            case 8: {
                int i = someBatter();
                return due("ask(" + i + ")", x.ask(i), m.ask(i));
            }
            case 9: {
                int what = pick(0, 1);
                return due("part(" + what + ")", x.part(what), m.part(what));
            }
            case 10: {
                int i = pick(0, 1);
                return due("image(" + i + ")", x.image(i), m.image(i));
            }
            case 11: {
                int i = pick(0, 1);
                return due("from(" + i + ")", x.from(i), m.from(i));
            }
            case 12: {
                int what = pick(0, 2);
                return due("status(" + what + ")", x.status(what), m.status(what));
            }
            default: {
                int what = pick(0, 11);
                return due("count(" + what + ")", x.count(what), m.count(what));
            }
        }
    }
}
