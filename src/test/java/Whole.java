/**
 * All that can be told of an object, as one text: the state, and what is
 * remembered, saved and written, too. To tell that changes the object, so each
 * look is at an object of its own; none is used for more than 512 calls.
 */
final class Whole {
    interface Call {
        long on(LilyWheels x);
    }

    private static final int MORE_THAN_REMEMBERED = 15;

    private final StringBuilder told = new StringBuilder();
    private final Start start;
    private final Call made;

    private Whole(Start start, Call made) {
        this.start = start;
        this.made = made;
    }

    /** What stands behind a call on this start, whatever it answers or throws. */
    static String of(Start start, Call made) {
        Whole whole = new Whole(start, made);
        whole.tellRemembered();
        whole.tellSaved(0);
        whole.tellSaved(1);
        whole.tellText();
        return whole.told.toString();
    }

    /** The call's answer, or the class of what it throws. */
    static String outcome(Call call, LilyWheels x) {
        try {
            return Long.toString(call.on(x));
        } catch (RuntimeException e) {
            return e.getClass().getSimpleName();
        }
    }

    private LilyWheels fresh() {
        LilyWheels x = start.make();
        outcome(made, x);
        return x;
    }

    private void tell(String call, Call asked, LilyWheels x) {
        told.append(call).append(": ").append(outcome(asked, x)).append('\n');
    }

    private void tellRemembered() {
        for (int k = 0; k <= MORE_THAN_REMEMBERED; k++) {
            LilyWheels x = fresh();
            for (int i = 0; i < k; i++) {
                tell("undo", LilyWheels::undo, x);
            }
            told.append(Seen.of(x)).append('\n');
        }
    }

    private void tellSaved(int slot) {
        LilyWheels x = fresh();
        tell("restore " + slot, y -> y.restore(slot), x);
        told.append(Seen.of(x)).append('\n');
        tell("undo", LilyWheels::undo, x);
    }

    private void tellText() {
        LilyWheels x = fresh();
        tell("load", LilyWheels::load, x);
        told.append(Seen.of(x)).append('\n');
        tell("undo", LilyWheels::undo, x);
        tell("restore 0", y -> y.restore(0), x);
        tell("restore 1", y -> y.restore(1), x);
        tell("append", y -> y.append('P'), x);
        tell("clearText", LilyWheels::clearText, x);
    }
}
