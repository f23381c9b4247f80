/** Counts the answers that are not as due; a test ends with end(). */
final class Check {
    private final String name;
    private int asked;
    private int wrong;

    Check(String name) {
        this.name = name;
    }

    void due(String call, long got, long want) {
        asked++;
        if (got != want) {
            wrong++;
            if (wrong <= 50) {
                System.out.println(name + ": " + call + " answered " + got + ", due is " + want);
            }
        }
    }

    void that(String what, boolean holds) {
        due(what, holds ? 1 : 0, 1);
    }

    /** Types a text in place of the one that is there. */
    static void write(PostRounders x, String text) {
        x.clear();
        for (int k = 0; k < text.length(); k++) {
            x.type(text.charAt(k));
        }
    }

    static int read(PostRounders x, String text) {
        write(x, text);
        return x.read();
    }

    static void batters(PostRounders x, int... kindsAndLegs) {
        for (int k = 0; k + 1 < kindsAndLegs.length; k += 2) {
            x.batter(kindsAndLegs[k], kindsAndLegs[k + 1]);
        }
    }

    static void row(PostRounders x, int... hits) {
        for (int k = 0; k < hits.length; k++) {
            x.row(k, hits[k]);
        }
    }

    void end() {
        System.out.println(name + ": " + asked + " asked, " + wrong + " not as due");
        if (wrong != 0) {
            System.exit(1);
        }
    }
}
