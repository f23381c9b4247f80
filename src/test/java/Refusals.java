import java.util.Arrays;

/** Looks at refused calls: the answer, what STATUS counts by it, and that nothing else is changed. */
final class Refusals {
    static final int BAD = 0, NO = 1, FULL = 2, NOT_COUNTED = 3;

    /** A call, and what it answers. */
    interface Call {
        long on(PostRounders x);
    }

    /** A call with one number that is looked at. */
    interface Given {
        long on(PostRounders x, int value);
    }

    private final Check check;

    Refusals(Check check) {
        this.check = check;
    }

    /** The call answers so, STATUS counts it once under its reason, and all else stays. */
    void refused(String name, Fields.Make make, Call call, long answer, int reason) {
        PostRounders x = make.make();
        PostRounders untouched = make.make();
        check.due(name, call.on(x), answer);
        for (int what = 0; what < 3; what++) {
            check.due(name + ", then status(" + what + ")", x.status(what),
                    untouched.status(what) + (what == reason ? 1 : 0));
        }
        check.that(name + ", all else stays", Arrays.equals(Fields.seen(x), Fields.seen(untouched)));
    }

    /** The call changes nothing, STATUS neither. */
    void changesNothing(String name, Fields.Make make, Call call) {
        PostRounders x = make.make();
        PostRounders untouched = make.make();
        call.on(x);
        for (int what = 0; what < 3; what++) {
            check.due(name + ", then status(" + what + ")", x.status(what), untouched.status(what));
        }
        check.that(name + ", all stays", Arrays.equals(Fields.seen(x), Fields.seen(untouched)));
    }

    /** The least and the most are taken, what is beyond them on both sides is BAD, however it stands. */
    void range(String name, int least, int most, long bad, Given call) {
        for (int f = 0; f < Fields.ALL.length; f++) {
            rangeIn(name + " in field " + f, Fields.ALL[f], least, most, bad, call);
        }
    }

    void range(String name, int least, int most, Given call) {
        range(name, least, most, -2, call);
    }

    /** As range, for the numbers of the batters that there are. */
    void batterRange(String name, Given call) {
        for (int f = 0; f < Fields.ALL.length; f++) {
            int most = Fields.ALL[f].make().count(0) - 1;
            rangeIn(name + " in field " + f, Fields.ALL[f], 0, most, -2, call);
        }
    }

    private void rangeIn(String name, Fields.Make make, int least, int most, long bad, Given call) {
        if (least <= most) {
            taken(name, make, least, bad, call);
            taken(name, make, most, bad, call);
        }
        outside(name, make, least - 1, bad, call);
        outside(name, make, Integer.MIN_VALUE, bad, call);
        if (most < Integer.MAX_VALUE) {
            outside(name, make, most + 1, bad, call);
            outside(name, make, Integer.MAX_VALUE, bad, call);
        }
    }

    private void taken(String name, Fields.Make make, int value, long bad, Given call) {
        PostRounders x = make.make();
        int before = x.status(0);
        check.that(name + ", " + value + " is taken", call.on(x, value) != bad);
        check.due(name + ", " + value + " is not counted as BAD", x.status(0), before);
    }

    private void outside(String name, Fields.Make make, int value, long bad, Given call) {
        refused(name + ", " + value + " is BAD", make, x -> call.on(x, value), bad, BAD);
    }
}
