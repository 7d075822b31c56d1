/** Each promise by hand, in the document's order; what is due was worked out from its words. */
final class PromisesTest {
    private static final int NONE = LilyWheels.NONE;
    private static final Class<IndexOutOfBoundsException> NO_SUCH = IndexOutOfBoundsException.class;
    private static final Class<IllegalArgumentException> BAD = IllegalArgumentException.class;
    private static final Class<IllegalStateException> STATE = IllegalStateException.class;
    private static final int[] FAR_OFF = {Integer.MIN_VALUE, -1000, 1000, Integer.MAX_VALUE};

    private static final Checks checks = new Checks("PromisesTest");

    public static void main(String[] args) {
        newObject();
        append();
        clearText();
        errorPosition();
        load();
        loadLeavesOut();
        loadClears();
        about();
        aboutFlies();
        wheelOf();
        placeOf();
        frogOf();
        lineOf();
        wheel();
        line();
        frog();
        flies();
        leap();
        leapReasons();
        leapAndStrength();
        fliesThatCome();
        hop();
        turn();
        set();
        undo();
        why();
        fewest();
        fewestRoundTurningPads();
        couldBe();
        mostFlies();
        runScript();
        runScriptMoves();
        simulate();
        save();
        restore();
        thinkingChangesNothing();
        checks.end();
    }

    private static void due(String call, long got, long want) {
        checks.due(call, got, want);
    }

    private static void refused(String call, Class<? extends RuntimeException> want, Checks.Call made) {
        checks.refused(call, want, made);
    }

    /** Refused, and behind it all is as it was. */
    private static void refused(LilyWheels x, String call, Class<? extends RuntimeException> want, Checks.Call made) {
        String before = Seen.of(x);
        checks.refused(call, want, made);
        checks.due(call + " changes nothing", Seen.of(x).equals(before));
    }

    private static LilyWheels pond(String text) {
        LilyWheels x = new LilyWheels();
        write(x, text);
        due("load() of " + text, x.load(), 0);
        return x;
    }

    private static void write(LilyWheels x, String text) {
        x.clearText();
        for (int i = 0; i < text.length(); i++) {
            x.append(text.charAt(i));
        }
    }

    /** Wheels of 5, 4 and 3 places, four lines, two frogs, 12 flies. */
    private static LilyWheels three() {
        LilyWheels x = new LilyWheels();
        x.wheel(5, 2, 8);
        x.wheel(4, -1, 20);
        x.wheel(3, 1, 0);
        x.line(0, 0, 1, 1);
        x.line(0, 3, 1, 3);
        x.line(1, 0, 2, 2);
        x.line(2, 0, 0, 4);
        x.frog(0, 0, 3);
        x.frog(1, 3, 7);
        x.flies(1, 1, 4);
        x.flies(2, 2, 6);
        x.flies(0, 4, 2);
        return x;
    }

    // Promise 1
    private static void newObject() {
        LilyWheels x = new LilyWheels();
        for (int what = 0; what <= 10; what++) {
            due("about(" + what + ") of a new object", x.about(what), what == 8 ? NONE : 0);
        }
        due("errorPosition() of a new object", x.errorPosition(), 0);
        due("clearText() of a new object", x.clearText(), 0);
        refused(x, "load() of a new object", STATE, x::load);
        refused(x, "undo() of a new object", STATE, x::undo);
        refused(x, "restore(0) of a new object", STATE, () -> x.restore(0));
        refused(x, "restore(1) of a new object", STATE, () -> x.restore(1));
        LilyWheels y = new LilyWheels();
        y.wheel(3, 0, 0);
        due("wheels of another object", x.about(0), 0);
    }

    // Promise 2
    private static void append() {
        LilyWheels x = new LilyWheels();
        due("append('P')", x.append('P'), 1);
        due("append(0)", x.append(0), 2);
        due("append(255)", x.append(255), 3);
        refused(x, "append(-1)", BAD, () -> x.append(-1));
        refused(x, "append(256)", BAD, () -> x.append(256));
        for (int c : FAR_OFF) {
            refused(x, "append(" + c + ")", BAD, () -> x.append(c));
        }
        for (int i = 4; i <= 120; i++) {
            due("append() the character " + i, x.append('w'), i);
        }
        refused(x, "append('w') behind 120", STATE, () -> x.append('w'));
        refused(x, "append(256) behind 120: the argument comes first", BAD, () -> x.append(256));
        due("clearText() behind 120", x.clearText(), 120);
        due("append() behind clearText()", x.append('P'), 1);
        LilyWheels y = new LilyWheels();
        y.wheel(3, 0, 0);
        y.append('P');
        y.undo();
        due("the text is not undone", y.clearText(), 1);
    }

    // Promise 3
    private static void clearText() {
        LilyWheels x = new LilyWheels();
        write(x, "Pw");
        due("clearText()", x.clearText(), 2);
        due("clearText() again", x.clearText(), 0);
        due("errorPosition() of no text", x.errorPosition(), 0);
        write(x, "P");
        due("errorPosition() of what is written then", x.errorPosition(), NONE);
        // What stood behind the text's end before counts no more.
        String whole = "Pw5430l0211";
        for (int k = 0; k <= whole.length(); k++) {
            write(x, whole);
            write(x, whole.substring(0, k));
            due("errorPosition() of the first " + k, x.errorPosition(), k == 1 || k == 6 || k == 11 ? NONE : k);
        }
    }

    private static void errorAt(String text, int want) {
        LilyWheels x = new LilyWheels();
        write(x, text);
        due("errorPosition() of " + text, x.errorPosition(), want);
        if (want == NONE) {
            return;
        }
        refused(x, "load() of " + text, STATE, x::load);
        due("the text is kept behind load() of " + text, x.clearText(), text.length());
    }

    /** A command's letter, and for each place behind it the characters that may stand there. */
    private static void form(String letter, String... allowed) {
        String good = "P" + letter;
        for (int k = 0; k < allowed.length; k++) {
            errorAt(good, good.length());
            for (int c = 0; c <= 255; c++) {
                boolean fits = allowed[k].indexOf(c) >= 0;
                String text = good + (char) c;
                errorAt(text, !fits ? good.length() : k == allowed.length - 1 ? NONE : text.length());
            }
            good += allowed[k].charAt(0);
        }
        errorAt(good, NONE);
        errorAt(good + " ", good.length());
    }

    // Promise 4
    private static void errorPosition() {
        for (int c = 0; c <= 255; c++) {
            errorAt("" + (char) c, c == 'P' ? NONE : 0);
            errorAt("P" + (char) c, "wlfyjht".indexOf(c) >= 0 ? 2 : 1);
        }
        form("w", "345", "012345678", "0123", "0123456789");
        form("w353", "0");
        form("w482", "0123456789");
        form("l", "012", "01234", "012", "01234");
        form("f", "012", "01234", "123456789");
        form("y", "012", "01234", "123456789");
        form("j", "01234", "01234567");
        form("h", "01234", "+-");
        form("t", "012", "1234");
        errorAt("", 0);
        errorAt("p", 0);
        errorAt("PP", 1);
        errorAt(" P", 0);
        errorAt("Pw4508w4508", NONE);
        errorAt("Pw4508 w4508", 6);
        errorAt("Pw4508w4538", 10);
        errorAt("Pt04h0+j07y249f149l2424w3030", NONE);
        errorAt("Ph0,", 3);
    }

    // Promise 5
    private static void load() {
        LilyWheels x = pond("Pw5830w4000w3400l0411f011f133y049y228t21");
        due("wheels", x.about(0), 3);
        due("lines", x.about(1), 1);
        due("frogs", x.about(2), 2);
        int[][] wheels = {{5, 4, 30, 0}, {4, -4, 0, 0}, {3, 0, 0, 1}};
        for (int w = 0; w < 3; w++) {
            for (int what = 0; what < 4; what++) {
                due("wheelOf(" + w + ", " + what + ")", x.wheelOf(w, what), wheels[w][what]);
            }
        }
        int[] line = {0, 4, 1, 1};
        for (int what = 0; what < 4; what++) {
            due("lineOf(0, " + what + ")", x.lineOf(0, what), line[what]);
        }
        due("place of frog 0", x.frogOf(0, 3), 1);
        due("weight of frog 1", x.frogOf(1, 0), 3);
        refused("undo() behind load()", STATE, x::undo);
        // Its own weight is not the only one, and the sides are told apart.
        LilyWheels y = pond("Pw5430f001f029h0-h1+");
        due("place of frog 0", y.frogOf(0, 3), 4);
        due("place of frog 1", y.frogOf(1, 3), 3);
        // Loaded over what was there before, it is as loaded into a new object.
        LilyWheels z = three();
        z.flies(1, 0, 9);
        z.flies(1, 0, 9);
        z.set(1);
        z.hop(0, 1);
        z.hop(1, -1);
        z.turn(0, 3);
        z.turn(2, 1);
        z.leap(1, 2);
        due("couldBe(0, 0)", z.couldBe(0, 0), 31);
        write(z, "Pw5430w4430w3430f009f101");
        due("undo() ahead of load()", z.undo(), 13);
        due("load() over it", z.load(), 0);
        checks.due("it is as in a new object", Seen.of(z).equals(Seen.of(pond("Pw5430w4430w3430f009f101"))));
        due("couldBe(0, 1): the old lines are gone", z.couldBe(0, 1), 0);
        due("fewest(0, 0, 2, 0)", z.fewest(0, 0, 2, 0), 2);
        due("fewest(0, 0, 2, 1)", z.fewest(0, 0, 2, 1), 2);
        refused("undo(): load() forgot what was remembered", STATE, z::undo);
    }

    private static void loadLeavesOut() {
        LilyWheels x = new LilyWheels();
        write(x, "P");
        due("load() of a pond without commands", x.load(), 0);
        write(x, "Pf001y001j00h0+t01l0010");
        due("load() without wheels", x.load(), 6);
        due("wheels", x.about(0), 0);
        // Left out: the same wheel twice, a place that the wheel has not, a
        // place that is taken, a leap and a hop that cannot be made.
        write(x, "Pw3430w3830l0000l0013f001f002l0212j00f101h1+h1+f111h1-t24t14");
        due("load() with what is left out", x.load(), 6);
        due("the moves that are made", x.about(3), 2);
        due("frogs", x.about(2), 3);
        due("the wheel turned by 4", x.wheelOf(1, 3), 1);
        write(x, "Pw3430w3430w3430w3430l0011l0011l0011l0011l0011l0011l0011l0011l0011");
        due("load() of a fourth wheel and a ninth line", x.load(), 2);
        due("lines", x.about(1), 8);
    }

    private static void loadClears() {
        LilyWheels x = three();
        x.leap(0, 0);
        x.set(1);
        x.save(0);
        x.save(1);
        write(x, "Px");
        refused(x, "load() of what is no pond", STATE, x::load);
        due("undo() behind that", x.undo(), 13);
        due("restore(0) behind that", x.restore(0), 1);
        write(x, "Pw3430");
        due("load()", x.load(), 0);
        for (int what = 0; what <= 10; what++) {
            due("about(" + what + ") behind load()", x.about(what), what == 0 ? 1 : what == 8 ? NONE : 0);
        }
        for (int p = 0; p < 3; p++) {
            due("flies behind load()", x.placeOf(0, p, 1), 0);
        }
        due("leaps behind load()", x.wheelOf(0, 7), 0);
        refused("restore(0) behind load()", STATE, () -> x.restore(0));
        refused("restore(1) behind load()", STATE, () -> x.restore(1));
        refused("undo() behind load()", STATE, x::undo);
        due("load() once more: the text is kept", x.load(), 0);
        due("wheels", x.about(0), 1);
        due("clearText()", x.clearText(), 6);
    }

    // Promise 6
    private static void about() {
        LilyWheels x = three();
        int[] want = {3, 4, 2, 0, 12, 0, 0, 12, NONE, 0, 2};
        for (int what = 0; what < want.length; what++) {
            due("about(" + what + ")", x.about(what), want[what]);
        }
        refused(x, "about(-1)", BAD, () -> x.about(-1));
        refused(x, "about(11)", BAD, () -> x.about(11));
        for (int what : FAR_OFF) {
            refused(x, "about(" + what + ")", BAD, () -> x.about(what));
        }
        x.set(1);
        due("about(9)", x.about(9), 1);
        due("leap(1, 1)", x.leap(1, 1), 0);
        due("the latest frog", x.about(8), 1);
        // Frog 1 made the latest move, so it cannot leap back along line 1.
        due("about(10) with setting 0 as 1", x.about(10), 1);
        x.set(0);
        due("about(10) with setting 0 as 0", x.about(10), 2);
        // On both ends of line 0 sits a frog.
        LilyWheels y = pond("Pw3400w3400l0010f001f101");
        due("about(10) with taken ends", y.about(10), 0);
        y.line(0, 0, 1, 1);
        due("about(10) with a second line", y.about(10), 1);
    }

    private static void aboutFlies() {
        LilyWheels x = pond("Pw3430f001y019y019y023");
        due("flies on pads", x.about(4), 12);
        due("flies gone off", x.about(6), 9);
        due("flies brought", x.about(7), 21);
        x.hop(0, 1);
        // It eats 9; at m = 1 a fly comes to the place 1, where it sits.
        due("flies eaten", x.about(5), 10);
        due("flies on pads then", x.about(4), 3);
        due("flies gone off then", x.about(6), 9);
        due("flies brought then", x.about(7), 22);
        due("moves", x.about(3), 1);
    }

    // Promise 7
    private static void wheelOf() {
        LilyWheels x = three();
        int[][] want = {{5, 2, 8, 0, 3, 2, 5, 0}, {4, -1, 20, 0, 7, 4, 4, 0}, {3, 1, 0, 0, 0, 6, 3, 0}};
        for (int w = 0; w < 3; w++) {
            for (int what = 0; what < 8; what++) {
                due("wheelOf(" + w + ", " + what + ")", x.wheelOf(w, what), want[w][what]);
            }
            int its = w;
            refused(x, "wheelOf(w, -1)", BAD, () -> x.wheelOf(its, -1));
            refused(x, "wheelOf(w, 8)", BAD, () -> x.wheelOf(its, 8));
            for (int what : FAR_OFF) {
                refused(x, "wheelOf(w, " + what + ")", BAD, () -> x.wheelOf(its, what));
                refused(x, "wheelOf(" + what + ", 0)", NO_SUCH, () -> x.wheelOf(what, 0));
            }
        }
        refused(x, "wheelOf(-1, 0)", NO_SUCH, () -> x.wheelOf(-1, 0));
        refused(x, "wheelOf(3, 0)", NO_SUCH, () -> x.wheelOf(3, 0));
        refused(x, "wheelOf(3, 8): the wheel comes first", NO_SUCH, () -> x.wheelOf(3, 8));
        x.turn(0, -1);
        due("wheelOf(0, 3)", x.wheelOf(0, 3), 4);
        due("a turn by hand is none by a leap", x.wheelOf(0, 7), 0);
        int[][] periods = {{3, 3, 1}, {3, -3, 1}, {3, 4, 3}, {3, 0, 1}, {4, 4, 1}, {4, 2, 2}, {4, -2, 2}, {4, 3, 4},
            {5, -4, 5}, {5, 0, 1}, {4, -4, 1}, {4, 1, 4}};
        for (int[] it : periods) {
            LilyWheels y = new LilyWheels();
            y.wheel(it[0], it[1], 0);
            due("the period of " + it[0] + " by " + it[1], y.wheelOf(0, 6), it[2]);
        }
    }

    // Promise 8
    private static void placeOf() {
        LilyWheels x = three();
        due("placeOf(1, 1, 0)", x.placeOf(1, 1, 0), 1);
        due("placeOf(1, 1, 1)", x.placeOf(1, 1, 1), 4);
        due("placeOf(1, 1, 2)", x.placeOf(1, 1, 2), NONE);
        due("placeOf(1, 3, 2)", x.placeOf(1, 3, 2), 1);
        due("placeOf(1, 1, 3)", x.placeOf(1, 1, 3), 1);
        due("placeOf(1, 2, 3)", x.placeOf(1, 2, 3), 0);
        x.line(1, 1, 2, 1);
        x.line(0, 0, 1, 1);
        due("placeOf(1, 1, 3) with more lines", x.placeOf(1, 1, 3), 3);
        due("placeOf(0, 0, 3) with one line twice", x.placeOf(0, 0, 3), 2);
        x.turn(1, 1);
        // The pads, the flies and the frogs went round; the lines stay.
        due("pad at the place 0", x.placeOf(1, 0, 0), 3);
        due("frog at the place 0", x.placeOf(1, 0, 2), 1);
        due("pad at the place 2", x.placeOf(1, 2, 0), 1);
        due("flies at the place 2", x.placeOf(1, 2, 1), 4);
        due("flies at the place 1", x.placeOf(1, 1, 1), 0);
        due("lines at the place 1", x.placeOf(1, 1, 3), 3);
        due("frog 0 on another wheel", x.placeOf(0, 0, 2), 0);
        refused(x, "placeOf(3, 0, 0)", NO_SUCH, () -> x.placeOf(3, 0, 0));
        refused(x, "placeOf(-1, 0, 0)", NO_SUCH, () -> x.placeOf(-1, 0, 0));
        refused(x, "placeOf(2, 3, 0)", NO_SUCH, () -> x.placeOf(2, 3, 0));
        refused(x, "placeOf(2, -1, 0)", NO_SUCH, () -> x.placeOf(2, -1, 0));
        refused(x, "placeOf(2, 3, 4): the place comes first", NO_SUCH, () -> x.placeOf(2, 3, 4));
        refused(x, "placeOf(2, 2, 4)", BAD, () -> x.placeOf(2, 2, 4));
        refused(x, "placeOf(2, 2, -1)", BAD, () -> x.placeOf(2, 2, -1));
        for (int far : FAR_OFF) {
            refused(x, "placeOf(far, 0, 0)", NO_SUCH, () -> x.placeOf(far, 0, 0));
            refused(x, "placeOf(0, far, 0)", NO_SUCH, () -> x.placeOf(0, far, 0));
            refused(x, "placeOf(0, 0, far)", BAD, () -> x.placeOf(0, 0, far));
        }
    }

    // Promise 9
    private static void frogOf() {
        LilyWheels x = three();
        int[] want = {7, 1, 3, 3, 0, 0};
        for (int what = 0; what < want.length; what++) {
            due("frogOf(1, " + what + ")", x.frogOf(1, what), want[what]);
        }
        x.turn(1, 2);
        due("its pad behind a turn", x.frogOf(1, 2), 3);
        due("its place behind a turn", x.frogOf(1, 3), 1);
        x.turn(1, 2);
        x.leap(0, 0);
        int[] behind = {3, 1, 1, 1, 5, 1};
        for (int what = 0; what < behind.length; what++) {
            due("frogOf(0, " + what + ") behind a leap", x.frogOf(0, what), behind[what]);
        }
        due("hop(0, 1)", x.hop(0, 1), 0);
        due("its moves", x.frogOf(0, 5), 2);
        due("the other one's moves", x.frogOf(1, 5), 0);
        refused(x, "frogOf(-1, 0)", NO_SUCH, () -> x.frogOf(-1, 0));
        refused(x, "frogOf(2, 0)", NO_SUCH, () -> x.frogOf(2, 0));
        refused(x, "frogOf(2, 6): the frog comes first", NO_SUCH, () -> x.frogOf(2, 6));
        refused(x, "frogOf(0, -1)", BAD, () -> x.frogOf(0, -1));
        refused(x, "frogOf(0, 6)", BAD, () -> x.frogOf(0, 6));
        for (int far : FAR_OFF) {
            refused(x, "frogOf(far, 0)", NO_SUCH, () -> x.frogOf(far, 0));
            refused(x, "frogOf(0, far)", BAD, () -> x.frogOf(0, far));
        }
    }

    // Promise 10
    private static void lineOf() {
        LilyWheels x = three();
        int[][] want = {{0, 0, 1, 1}, {0, 3, 1, 3}, {1, 0, 2, 2}, {2, 0, 0, 4}};
        for (int l = 0; l < 4; l++) {
            for (int what = 0; what < 4; what++) {
                due("lineOf(" + l + ", " + what + ")", x.lineOf(l, what), want[l][what]);
            }
        }
        x.turn(0, 1);
        due("a line's place behind a turn", x.lineOf(0, 1), 0);
        refused(x, "lineOf(-1, 0)", NO_SUCH, () -> x.lineOf(-1, 0));
        refused(x, "lineOf(4, 0)", NO_SUCH, () -> x.lineOf(4, 0));
        refused(x, "lineOf(4, 4): the line comes first", NO_SUCH, () -> x.lineOf(4, 4));
        refused(x, "lineOf(3, 4)", BAD, () -> x.lineOf(3, 4));
        refused(x, "lineOf(0, -1)", BAD, () -> x.lineOf(0, -1));
        for (int far : FAR_OFF) {
            refused(x, "lineOf(far, 0)", NO_SUCH, () -> x.lineOf(far, 0));
            refused(x, "lineOf(0, far)", BAD, () -> x.lineOf(0, far));
        }
    }

    // Promise 11
    private static void wheel() {
        LilyWheels x = new LilyWheels();
        refused(x, "wheel(2, 0, 0)", BAD, () -> x.wheel(2, 0, 0));
        refused(x, "wheel(6, 0, 0)", BAD, () -> x.wheel(6, 0, 0));
        refused(x, "wheel(3, -5, 0)", BAD, () -> x.wheel(3, -5, 0));
        refused(x, "wheel(3, 5, 0)", BAD, () -> x.wheel(3, 5, 0));
        refused(x, "wheel(3, 0, -1)", BAD, () -> x.wheel(3, 0, -1));
        refused(x, "wheel(3, 0, 31)", BAD, () -> x.wheel(3, 0, 31));
        for (int far : FAR_OFF) {
            refused(x, "wheel(far, 0, 0)", BAD, () -> x.wheel(far, 0, 0));
            refused(x, "wheel(3, far, 0)", BAD, () -> x.wheel(3, far, 0));
            refused(x, "wheel(3, 0, far)", BAD, () -> x.wheel(3, 0, far));
        }
        refused(x, "undo(): no refused call is remembered", STATE, x::undo);
        due("wheel(3, -4, 0)", x.wheel(3, -4, 0), 0);
        due("wheel(5, 4, 30)", x.wheel(5, 4, 30), 1);
        due("wheel(4, 0, 15)", x.wheel(4, 0, 15), 2);
        refused(x, "a fourth wheel", STATE, () -> x.wheel(3, 0, 0));
        refused(x, "a fourth wheel of 6: the argument comes first", BAD, () -> x.wheel(6, 0, 0));
        due("wheels", x.about(0), 3);
        due("notch of wheel 0", x.wheelOf(0, 1), -4);
        due("strength of wheel 1", x.wheelOf(1, 2), 30);
        due("places of wheel 2", x.wheelOf(2, 0), 4);
        due("undo()", x.undo(), 2);
        due("wheels behind undo()", x.about(0), 2);
        due("the wheel again", x.wheel(3, 1, 1), 2);
    }

    // Promise 12
    private static void line() {
        LilyWheels x = pond("Pw3400w5400");
        refused(x, "line(2, 0, 0, 0)", NO_SUCH, () -> x.line(2, 0, 0, 0));
        refused(x, "line(0, 3, 1, 0)", NO_SUCH, () -> x.line(0, 3, 1, 0));
        refused(x, "line(0, 0, 2, 0)", NO_SUCH, () -> x.line(0, 0, 2, 0));
        refused(x, "line(0, 0, 1, 5)", NO_SUCH, () -> x.line(0, 0, 1, 5));
        refused(x, "line(-1, 0, 1, 0)", NO_SUCH, () -> x.line(-1, 0, 1, 0));
        refused(x, "line(0, -1, 1, 0)", NO_SUCH, () -> x.line(0, -1, 1, 0));
        refused(x, "line(0, 0, -1, 0)", NO_SUCH, () -> x.line(0, 0, -1, 0));
        refused(x, "line(0, 0, 1, -1)", NO_SUCH, () -> x.line(0, 0, 1, -1));
        refused(x, "line(0, 0, 0, 3): the place comes first", NO_SUCH, () -> x.line(0, 0, 0, 3));
        refused(x, "line(0, 3, 0, 0): the place comes first", NO_SUCH, () -> x.line(0, 3, 0, 0));
        refused(x, "line(0, 0, 0, 1)", BAD, () -> x.line(0, 0, 0, 1));
        refused(x, "line(1, 4, 1, 4)", BAD, () -> x.line(1, 4, 1, 4));
        for (int far : FAR_OFF) {
            refused(x, "line(far, 0, 1, 0)", NO_SUCH, () -> x.line(far, 0, 1, 0));
            refused(x, "line(0, far, 1, 0)", NO_SUCH, () -> x.line(0, far, 1, 0));
            refused(x, "line(0, 0, far, 0)", NO_SUCH, () -> x.line(0, 0, far, 0));
            refused(x, "line(0, 0, 1, far)", NO_SUCH, () -> x.line(0, 0, 1, far));
        }
        refused(x, "undo(): no refused call is remembered", STATE, x::undo);
        due("line(0, 2, 1, 4)", x.line(0, 2, 1, 4), 0);
        for (int l = 1; l < 8; l++) {
            due("a line that is there already", x.line(1, 4, 0, 2), l);
        }
        refused(x, "a ninth line", STATE, () -> x.line(0, 0, 1, 0));
        refused(x, "a ninth line on one wheel: the argument comes first", BAD, () -> x.line(0, 0, 0, 1));
        refused(x, "a ninth line from nowhere: the place comes first", NO_SUCH, () -> x.line(0, 3, 0, 1));
        due("undo()", x.undo(), 7);
        due("lines behind undo()", x.about(1), 7);
    }

    // Promise 13
    private static void frog() {
        LilyWheels x = pond("Pw5400w3400y003");
        x.turn(0, 2);
        due("frog(0, 1, 9)", x.frog(0, 1, 9), 0);
        due("its pad", x.frogOf(0, 2), 4);
        due("its place", x.frogOf(0, 3), 1);
        due("frog(0, 2, 1), where 3 flies are", x.frog(0, 2, 1), 1);
        due("it does not eat them", x.frogOf(1, 4), 0);
        due("they stay", x.placeOf(0, 2, 1), 3);
        refused(x, "frog(2, 0, 1)", NO_SUCH, () -> x.frog(2, 0, 1));
        refused(x, "frog(-1, 0, 1)", NO_SUCH, () -> x.frog(-1, 0, 1));
        refused(x, "frog(1, 3, 1)", NO_SUCH, () -> x.frog(1, 3, 1));
        refused(x, "frog(1, -1, 1)", NO_SUCH, () -> x.frog(1, -1, 1));
        refused(x, "frog(1, 3, 0): the place comes first", NO_SUCH, () -> x.frog(1, 3, 0));
        refused(x, "frog(1, 0, 0)", BAD, () -> x.frog(1, 0, 0));
        refused(x, "frog(1, 0, 10)", BAD, () -> x.frog(1, 0, 10));
        refused(x, "frog(0, 1, 0): the weight comes before who sits there", BAD, () -> x.frog(0, 1, 0));
        refused(x, "frog(0, 1, 1)", STATE, () -> x.frog(0, 1, 1));
        for (int far : FAR_OFF) {
            refused(x, "frog(far, 0, 1)", NO_SUCH, () -> x.frog(far, 0, 1));
            refused(x, "frog(0, far, 1)", NO_SUCH, () -> x.frog(0, far, 1));
            refused(x, "frog(0, 0, far)", BAD, () -> x.frog(0, 0, far));
        }
        due("frog(1, 0, 2)", x.frog(1, 0, 2), 2);
        due("frog(1, 1, 2)", x.frog(1, 1, 2), 3);
        due("frog(1, 2, 2)", x.frog(1, 2, 2), 4);
        refused(x, "a sixth frog", STATE, () -> x.frog(0, 0, 1));
        refused(x, "a sixth frog of no weight: the argument comes first", BAD, () -> x.frog(0, 0, 0));
        due("undo()", x.undo(), 5);
        due("frogs behind undo()", x.about(2), 4);
        due("nobody sits there", x.placeOf(1, 2, 2), NONE);
    }

    // Promise 14
    private static void flies() {
        LilyWheels x = pond("Pw5400w3400f001");
        due("flies(0, 1, 4)", x.flies(0, 1, 4), 4);
        due("flies(0, 1, 5)", x.flies(0, 1, 5), 9);
        due("none has gone off", x.about(6), 0);
        due("flies(0, 1, 1)", x.flies(0, 1, 1), 9);
        due("one has gone off", x.about(6), 1);
        due("flies(1, 2, 8)", x.flies(1, 2, 8), 8);
        due("flies(1, 2, 9)", x.flies(1, 2, 9), 9);
        due("eight more have gone off", x.about(6), 9);
        due("flies(0, 0, 3), where a frog sits", x.flies(0, 0, 3), 3);
        due("it eats none", x.frogOf(0, 4), 0);
        due("they were brought", x.about(7), 30);
        x.turn(0, 1);
        due("flies(0, 1, 2), behind a turn", x.flies(0, 1, 2), 5);
        due("on the pad 0", x.placeOf(0, 1, 0), 0);
        refused(x, "flies(2, 0, 1)", NO_SUCH, () -> x.flies(2, 0, 1));
        refused(x, "flies(-1, 0, 1)", NO_SUCH, () -> x.flies(-1, 0, 1));
        refused(x, "flies(1, 3, 1)", NO_SUCH, () -> x.flies(1, 3, 1));
        refused(x, "flies(1, -1, 1)", NO_SUCH, () -> x.flies(1, -1, 1));
        refused(x, "flies(1, 3, 0): the place comes first", NO_SUCH, () -> x.flies(1, 3, 0));
        refused(x, "flies(1, 0, 0)", BAD, () -> x.flies(1, 0, 0));
        refused(x, "flies(1, 0, 10)", BAD, () -> x.flies(1, 0, 10));
        for (int far : FAR_OFF) {
            refused(x, "flies(far, 0, 1)", NO_SUCH, () -> x.flies(far, 0, 1));
            refused(x, "flies(0, far, 1)", NO_SUCH, () -> x.flies(0, far, 1));
            refused(x, "flies(0, 0, far)", BAD, () -> x.flies(0, 0, far));
        }
        due("undo()", x.undo(), 7);
        due("flies behind undo()", x.placeOf(0, 1, 1), 3);
        due("brought behind undo()", x.about(7), 30);
    }

    // Promise 15
    private static void leap() {
        LilyWheels x = pond("Pw5608w4320l0011f003y114");
        due("leap(0, 0)", x.leap(0, 0), 0);
        due("its wheel", x.frogOf(0, 1), 1);
        due("its pad", x.frogOf(0, 2), 1);
        // 4 that lay there, and the one that comes: m = 1, wheel 1, place 1.
        due("what it ate", x.frogOf(0, 4), 5);
        due("no fly is left", x.about(4), 0);
        due("the wheel that it left", x.wheelOf(0, 3), 2);
        due("how often it turned", x.wheelOf(0, 7), 1);
        due("the other wheel", x.wheelOf(1, 3), 0);
        due("leap(0, 0) back", x.leap(0, 0), 0);
        due("its wheel", x.frogOf(0, 1), 0);
        due("its pad", x.frogOf(0, 2), 3);
        due("its place", x.frogOf(0, 3), 0);
        due("wheel 1", x.wheelOf(1, 3), 3);
        due("wheel 0 stays", x.wheelOf(0, 3), 2);
        due("the fly of the move 2", x.placeOf(0, 2, 1), 1);
        due("it lies on the pad", x.placeOf(0, 2, 0), 0);
        due("moves", x.about(3), 2);
        refused(x, "leap(-1, 0)", NO_SUCH, () -> x.leap(-1, 0));
        refused(x, "leap(1, 0)", NO_SUCH, () -> x.leap(1, 0));
        refused(x, "leap(0, -1)", NO_SUCH, () -> x.leap(0, -1));
        refused(x, "leap(0, 1)", NO_SUCH, () -> x.leap(0, 1));
        for (int far : FAR_OFF) {
            refused(x, "leap(far, 0)", NO_SUCH, () -> x.leap(far, 0));
            refused(x, "leap(0, far)", NO_SUCH, () -> x.leap(0, far));
        }
        due("undo()", x.undo(), 1);
        due("its wheel behind undo()", x.frogOf(0, 1), 1);
    }

    private static void leapReasons() {
        LilyWheels x = pond("Pw3430w3430l0010l0111f001f111f121");
        due("leap(0, 1): it is at neither end", x.leap(0, 1), 1);
        due("leap(1, 0): it is at neither end", x.leap(1, 0), 1);
        due("moves", x.about(3), 0);
        due("leap(0, 0)", x.leap(0, 0), 0);
        x.set(1);
        String before = Seen.of(x);
        due("leap(0, 0): its move was the latest", x.leap(0, 0), 3);
        due("leap(0, 1): 1 comes before 3", x.leap(0, 1), 1);
        checks.due("what cannot be made changes nothing", Seen.of(x).equals(before));
        due("but it is an action", x.undo(), 5);
        due("leap(1, 1)", x.leap(1, 1), 0);
        due("leap(0, 0): now the other's move was the latest", x.leap(0, 0), 0);
        // Frog 0 at (0, 0), frog 1 at (0, 1), frog 2 at (1, 2); to line 0's end.
        due("hop(2, 1)", x.hop(2, 1), 0);
        due("leap(2, 0): 2 comes before 3", x.leap(2, 0), 2);
        due("leap(0, 0): 2 without 3", x.leap(0, 0), 2);
        x.set(0);
        due("leap(2, 0): the frog still sits there", x.leap(2, 0), 2);
        due("why(1, 1)", x.why(1, 1), 0);
    }

    private static void leapAndStrength() {
        for (int weight = 7; weight <= 9; weight++) {
            LilyWheels x = pond("Pw5608w4320l0011f001f02" + weight);
            due("leap(0, 0)", x.leap(0, 0), 0);
            due("the turn with " + weight + " left", x.wheelOf(0, 3), weight <= 8 ? 2 : 0);
            due("the turns with " + weight + " left", x.wheelOf(0, 7), weight <= 8 ? 1 : 0);
        }
        LilyWheels y = pond("Pw5408w4300l0011f001f029f049");
        due("leap(0, 0)", y.leap(0, 0), 0);
        due("too much weight", y.wheelOf(0, 7), 0);
        LilyWheels x = pond("Pw5608w4320l0011f029f001");
        due("leap(1, 0), away from frog 0", x.leap(1, 0), 0);
        due("too much weight of frog 0", x.wheelOf(0, 7), 0);
        due("its turn", x.wheelOf(0, 3), 0);
        LilyWheels z = pond("Pw5400w4300l0011f009");
        due("leap(0, 0)", z.leap(0, 0), 0);
        due("a notch of 0 counts, and no weight is at most a strength of 0", z.wheelOf(0, 7), 1);
        due("its turn", z.wheelOf(0, 3), 0);
    }

    private static void fliesThatCome() {
        LilyWheels x = pond("Pw3430w4430l0012f001y119");
        due("leap(0, 0)", x.leap(0, 0), 0);
        due("the fly goes off", x.about(6), 1);
        due("all flies", x.about(7), 10);
        due("the pad stays full", x.placeOf(1, 1, 1), 9);
        // m = 2: wheel 0, place 2. m = 3: wheel 1, place 3, where it sits.
        due("hop(0, 1)", x.hop(0, 1), 0);
        due("the fly of the move 2", x.placeOf(0, 2, 1), 1);
        due("hop(0, 1)", x.hop(0, 1), 0);
        due("the fly of the move 3", x.placeOf(1, 3, 1), 1);
        due("frog 0 at the place 0", x.frogOf(0, 3), 0);
        // m = 4: wheel 0, place 4 modulo 3.
        due("hop(0, -1)", x.hop(0, -1), 0);
        due("it ate the fly", x.frogOf(0, 4), 1);
        due("the fly of the move 4", x.placeOf(0, 1, 1), 1);
        // m = 1 by another frog: the one that sits there eats the fly alone.
        LilyWheels y = pond("Pw3430w4430f001f111y113");
        due("hop(0, 1)", y.hop(0, 1), 0);
        due("the frog that sits there", y.frogOf(1, 4), 1);
        due("its pad's flies stay", y.placeOf(1, 1, 1), 3);
        due("flies on pads", y.about(4), 3);
        due("flies eaten", y.about(5), 1);
        due("all flies", y.about(7), 4);
        due("its moves", y.frogOf(1, 5), 0);
        // The place is told behind the turn of the wheel that was left: m = 1
        // on one wheel more, wheel 1, whose pads went round by 1.
        LilyWheels z = pond("Pw3430w4530l1000f101");
        due("leap(0, 0)", z.leap(0, 0), 0);
        due("the pad at the place 1", z.placeOf(1, 1, 0), 0);
        due("the fly on it", z.placeOf(1, 1, 1), 1);
    }

    // Promise 16
    private static void hop() {
        LilyWheels x = pond("Pw5830f001f021y049");
        due("hop(0, -1)", x.hop(0, -1), 0);
        due("its place", x.frogOf(0, 3), 4);
        due("it ate", x.frogOf(0, 4), 9);
        due("nothing turns", x.wheelOf(0, 3), 0);
        due("no turn is counted", x.wheelOf(0, 7), 0);
        due("the fly of the move 1", x.placeOf(0, 1, 1), 1);
        due("hop(0, 1)", x.hop(0, 1), 0);
        due("its place", x.frogOf(0, 3), 0);
        // Frog 1 sat where the fly of the move 2 came.
        due("frog 1 ate", x.frogOf(1, 4), 1);
        due("hop(0, 1)", x.hop(0, 1), 0);
        due("frog 0 ate", x.frogOf(0, 4), 10);
        due("hop(0, 1): taken", x.hop(0, 1), 2);
        x.set(1);
        due("hop(0, 1): 2 comes before 3", x.hop(0, 1), 2);
        due("hop(0, -1): its move was the latest", x.hop(0, -1), 3);
        due("moves", x.about(3), 3);
        due("hop(1, 1)", x.hop(1, 1), 0);
        due("hop(0, -1)", x.hop(0, -1), 0);
        due("the latest frog", x.about(8), 0);
        refused(x, "hop(2, 1)", NO_SUCH, () -> x.hop(2, 1));
        refused(x, "hop(-1, 1)", NO_SUCH, () -> x.hop(-1, 1));
        refused(x, "hop(2, 0): the frog comes first", NO_SUCH, () -> x.hop(2, 0));
        refused(x, "hop(0, 0)", BAD, () -> x.hop(0, 0));
        refused(x, "hop(0, 2)", BAD, () -> x.hop(0, 2));
        refused(x, "hop(0, -2)", BAD, () -> x.hop(0, -2));
        for (int far : FAR_OFF) {
            refused(x, "hop(far, 1)", NO_SUCH, () -> x.hop(far, 1));
            refused(x, "hop(0, far)", BAD, () -> x.hop(0, far));
        }
        x.set(0);
        x.turn(0, 2);
        due("hop(0, 1) behind a turn", x.hop(0, 1), 0);
        due("its place", x.frogOf(0, 3), 3);
        due("its pad", x.frogOf(0, 2), 1);
    }

    // Promise 17
    private static void turn() {
        LilyWheels x = pond("Pw5400w3400f021");
        due("turn(0, 4)", x.turn(0, 4), 4);
        due("the frog goes round", x.frogOf(0, 3), 1);
        due("turn(0, 4)", x.turn(0, 4), 3);
        due("turn(0, -4)", x.turn(0, -4), 4);
        due("turn(1, -4)", x.turn(1, -4), 2);
        due("turn(1, 4)", x.turn(1, 4), 0);
        due("turn(1, 0)", x.turn(1, 0), 0);
        due("it is no move", x.about(3), 0);
        due("no fly comes", x.about(7), 0);
        due("it is no turn by a leap", x.wheelOf(0, 7), 0);
        refused(x, "turn(2, 0)", NO_SUCH, () -> x.turn(2, 0));
        refused(x, "turn(-1, 0)", NO_SUCH, () -> x.turn(-1, 0));
        refused(x, "turn(2, 5): the wheel comes first", NO_SUCH, () -> x.turn(2, 5));
        refused(x, "turn(0, 5)", BAD, () -> x.turn(0, 5));
        refused(x, "turn(0, -5)", BAD, () -> x.turn(0, -5));
        for (int far : FAR_OFF) {
            refused(x, "turn(far, 0)", NO_SUCH, () -> x.turn(far, 0));
            refused(x, "turn(0, far)", BAD, () -> x.turn(0, far));
        }
        due("undo(): a turn by 0 is an action", x.undo(), 5);
        due("undo()", x.undo(), 4);
        due("the turn behind undo()", x.wheelOf(1, 3), 2);
    }

    // Promise 18
    private static void set() {
        LilyWheels x = new LilyWheels();
        due("set(1)", x.set(1), 0);
        due("about(9)", x.about(9), 1);
        due("set(1)", x.set(1), 1);
        due("set(0)", x.set(0), 1);
        due("set(0)", x.set(0), 0);
        refused(x, "set(2)", BAD, () -> x.set(2));
        refused(x, "set(-1)", BAD, () -> x.set(-1));
        for (int far : FAR_OFF) {
            refused(x, "set(far)", BAD, () -> x.set(far));
        }
        due("undo()", x.undo(), 3);
        due("undo()", x.undo(), 2);
        due("about(9)", x.about(9), 1);
    }

    // Promise 19
    private static void undo() {
        LilyWheels x = three();
        String[] seen = new String[20];
        for (int i = 0; i < 20; i++) {
            seen[i] = Seen.of(x);
            if (i % 4 == 0) {
                x.leap(0, i / 4 % 2);
            } else if (i % 4 == 1) {
                x.hop(1, 1);
            } else if (i % 4 == 2) {
                x.flies(2, i % 3, 2);
            } else {
                x.turn(1, 1);
            }
        }
        for (int i = 19; i >= 6; i--) {
            due("undo()", x.undo(), i - 6);
            checks.due("all is as it was ahead of the action " + i, Seen.of(x).equals(seen[i]));
        }
        refused(x, "undo(): only 14 are remembered", STATE, x::undo);
        x.set(1);
        due("undo() of what is done then", x.undo(), 0);
        refused(x, "undo(): nothing is remembered", STATE, x::undo);
        LilyWheels y = new LilyWheels();
        y.wheel(4, 1, 1);
        y.wheel(5, 2, 2);
        y.undo();
        y.wheel(3, 0, 0);
        due("undo() is no action", y.undo(), 1);
        due("places of wheel 0", y.wheelOf(0, 0), 4);
        due("undo()", y.undo(), 0);
        due("wheels", y.about(0), 0);
        // The memory is full more than once round, with undos in between.
        LilyWheels z = new LilyWheels();
        z.wheel(5, 0, 0);
        int turn = 0;
        for (int i = 0; i < 50; i++) {
            z.turn(0, 1);
            turn++;
            if (i % 5 == 4) {
                due("undo() the turn " + i, z.undo(), Math.min(13, i + 1 - i / 5));
                turn--;
            }
            due("the turn", z.wheelOf(0, 3), turn % 5);
        }
        for (int i = 12; i >= 0; i--) {
            due("undo()", z.undo(), i);
            turn--;
            due("the turn behind undo()", z.wheelOf(0, 3), turn % 5);
        }
        refused(z, "undo()", STATE, z::undo);
    }

    // Promise 20
    private static void why() {
        LilyWheels x = pond("Pw3430w3430l0010l0111f001f111");
        due("why(0, 0)", x.why(0, 0), 0);
        due("why(0, 1)", x.why(0, 1), 1);
        due("why(1, 1)", x.why(1, 1), 0);
        due("hop(0, 1)", x.hop(0, 1), 0);
        due("why(0, 1)", x.why(0, 1), 2);
        due("why(0, 0)", x.why(0, 0), 1);
        x.set(1);
        due("why(0, 1): 2 comes before 3", x.why(0, 1), 2);
        due("hop(1, 1)", x.hop(1, 1), 0);
        due("hop(0, -1)", x.hop(0, -1), 0);
        due("why(0, 0)", x.why(0, 0), 3);
        refused(x, "why(2, 0)", NO_SUCH, () -> x.why(2, 0));
        refused(x, "why(-1, 0)", NO_SUCH, () -> x.why(-1, 0));
        refused(x, "why(0, 2)", NO_SUCH, () -> x.why(0, 2));
        refused(x, "why(0, -1)", NO_SUCH, () -> x.why(0, -1));
        for (int far : FAR_OFF) {
            refused(x, "why(far, 0)", NO_SUCH, () -> x.why(far, 0));
            refused(x, "why(0, far)", NO_SUCH, () -> x.why(0, far));
        }
        due("undo(): why() is no action", x.undo(), 3);
    }

    private static void fewestIs(LilyWheels x, int f, int w, int p, int want) {
        for (int way = 0; way <= 1; way++) {
            due("fewest(" + f + ", " + w + ", " + p + ", " + way + ")", x.fewest(f, w, p, way), want);
        }
    }

    // Promise 21
    private static void fewest() {
        LilyWheels x = pond("Pw5430w3430l0210f001");
        int[] round = {0, 1, 2, 2, 1};
        for (int p = 0; p < 5; p++) {
            fewestIs(x, 0, 0, p, round[p]);
        }
        fewestIs(x, 0, 1, 0, 3);
        fewestIs(x, 0, 1, 1, 4);
        fewestIs(x, 0, 1, 2, 4);
        x.frog(0, 1, 1);
        fewestIs(x, 0, 0, 1, NONE);
        fewestIs(x, 0, 0, 2, 3);
        fewestIs(x, 0, 1, 0, 4);
        x.frog(0, 4, 1);
        fewestIs(x, 0, 0, 0, 0);
        fewestIs(x, 0, 0, 2, NONE);
        fewestIs(x, 0, 1, 0, NONE);
        x.undo();
        x.hop(0, -1);
        x.set(1);
        due("hop(0, -1) cannot be made now", x.hop(0, -1), 3);
        fewestIs(x, 0, 0, 3, 1);
        // All lines there can be, from one place.
        LilyWheels y = pond("Pw3430w4430w4430l0010l0011l0012l0013l2000l2100l2200l2300f001");
        for (int p = 0; p < 4; p++) {
            fewestIs(y, 0, 1, p, 1);
            fewestIs(y, 0, 2, p, 1);
        }
        refused(x, "fewest(2, 0, 0, 0)", NO_SUCH, () -> x.fewest(2, 0, 0, 0));
        refused(x, "fewest(-1, 0, 0, 0)", NO_SUCH, () -> x.fewest(-1, 0, 0, 0));
        refused(x, "fewest(0, 2, 0, 0)", NO_SUCH, () -> x.fewest(0, 2, 0, 0));
        refused(x, "fewest(0, -1, 0, 0)", NO_SUCH, () -> x.fewest(0, -1, 0, 0));
        refused(x, "fewest(0, 1, 3, 0)", NO_SUCH, () -> x.fewest(0, 1, 3, 0));
        refused(x, "fewest(0, 1, -1, 0)", NO_SUCH, () -> x.fewest(0, 1, -1, 0));
        refused(x, "fewest(2, 0, 0, 2): the frog comes first", NO_SUCH, () -> x.fewest(2, 0, 0, 2));
        refused(x, "fewest(0, 1, 3, 2): the place comes first", NO_SUCH, () -> x.fewest(0, 1, 3, 2));
        refused(x, "fewest(0, 0, 0, 2)", BAD, () -> x.fewest(0, 0, 0, 2));
        refused(x, "fewest(0, 0, 0, -1)", BAD, () -> x.fewest(0, 0, 0, -1));
        for (int far : FAR_OFF) {
            refused(x, "fewest(far, 0, 0, 0)", NO_SUCH, () -> x.fewest(far, 0, 0, 0));
            refused(x, "fewest(0, far, 0, 0)", NO_SUCH, () -> x.fewest(0, far, 0, 0));
            refused(x, "fewest(0, 0, far, 1)", NO_SUCH, () -> x.fewest(0, 0, far, 1));
            refused(x, "fewest(0, 0, 0, far)", BAD, () -> x.fewest(0, 0, 0, far));
        }
    }

    private static void fewestRoundTurningPads() {
        // Frog 0 sits between two others. When it leaps off, wheel 0 turns by
        // 1, and the free pad lies at the place 1.
        LilyWheels x = pond("Pw3530w3430l0010f001f011f021");
        fewestIs(x, 0, 1, 0, 1);
        fewestIs(x, 0, 1, 2, 2);
        fewestIs(x, 0, 0, 0, 0);
        fewestIs(x, 0, 0, 1, NONE);
        x.line(0, 1, 1, 1);
        fewestIs(x, 0, 0, 1, 3);
        fewestIs(x, 0, 0, 2, NONE);
        x.line(0, 2, 1, 2);
        // From (0, 1) it leaps to (1, 1), hops to (1, 2), and leaps to (0, 2).
        fewestIs(x, 0, 0, 2, 6);
        // The same between each two of three wheels, the third one standing by.
        for (int a = 0; a < 3; a++) {
            for (int b = 0; b < 3; b++) {
                for (int turn = 0; turn < 3 && a != b; turn++) {
                    roundTurningPads(a, b, turn);
                }
            }
        }
        // The others are too heavy for the wheel: it never turns.
        LilyWheels y = pond("Pw3501w3430l0010l0111l0212f001f011f021");
        fewestIs(y, 0, 1, 2, 2);
        fewestIs(y, 0, 0, 1, NONE);
        fewestIs(y, 0, 0, 2, NONE);
        // Its own weight does not count: it has left.
        LilyWheels z = pond("Pw3502w3430l0010l0111l0212f009f011f021");
        fewestIs(z, 0, 0, 1, 3);
        fewestIs(z, 0, 0, 2, 6);
        z.turn(0, 1);
        fewestIs(z, 0, 0, 1, 0);
        fewestIs(z, 0, 0, 2, 3);
    }

    private static void roundTurningPads(int a, int b, int turn) {
        LilyWheels x = new LilyWheels();
        for (int w = 0; w < 3; w++) {
            x.wheel(3, w == a ? 1 : 0, 2);
            x.turn(w, turn);
        }
        for (int p = 0; p < 3; p++) {
            x.line(a, p, b, p);
            x.frog(a, p, 1);
        }
        fewestIs(x, 0, a, 0, 0);
        fewestIs(x, 0, a, 1, 3);
        fewestIs(x, 0, a, 2, 6);
        fewestIs(x, 1, a, 1, 0);
        fewestIs(x, 1, a, 0, 6);
        for (int p = 0; p < 3; p++) {
            fewestIs(x, 0, b, p, p == 0 ? 1 : 2);
            fewestIs(x, 0, 3 - a - b, p, NONE);
        }
        due("couldBe(2, a)", x.couldBe(2, a), 7);
        due("couldBe(2, b)", x.couldBe(2, b), 7);
        due("couldBe(2, the third)", x.couldBe(2, 3 - a - b), 0);
    }

    // Promise 22
    private static void couldBe() {
        LilyWheels x = pond("Pw3530w5430w4430l0010f001f011f021");
        due("couldBe(0, 0)", x.couldBe(0, 0), 1);
        due("couldBe(0, 1)", x.couldBe(0, 1), 31);
        due("couldBe(0, 2)", x.couldBe(0, 2), 0);
        due("couldBe(1, 0)", x.couldBe(1, 0), 2);
        x.line(0, 1, 1, 1);
        due("couldBe(0, 0) with a second line", x.couldBe(0, 0), 3);
        x.set(1);
        x.leap(0, 0);
        due("couldBe(0, 1) behind its move, with setting 0 as 1", x.couldBe(0, 1), 31);
        refused(x, "couldBe(3, 0)", NO_SUCH, () -> x.couldBe(3, 0));
        refused(x, "couldBe(-1, 0)", NO_SUCH, () -> x.couldBe(-1, 0));
        refused(x, "couldBe(0, 3)", NO_SUCH, () -> x.couldBe(0, 3));
        refused(x, "couldBe(0, -1)", NO_SUCH, () -> x.couldBe(0, -1));
        for (int far : FAR_OFF) {
            refused(x, "couldBe(far, 0)", NO_SUCH, () -> x.couldBe(far, 0));
            refused(x, "couldBe(0, far)", NO_SUCH, () -> x.couldBe(0, far));
        }
    }

    // Promise 23
    private static void mostFlies() {
        LilyWheels x = pond("Pw5430f001y012y029y045");
        int[] want = {5, 11, 14, 16};
        for (int n = 1; n <= 4; n++) {
            due("mostFlies(0, " + n + ")", x.mostFlies(0, n), want[n - 1]);
        }
        LilyWheels y = pond("Pw5430f001y003");
        int[] own = {0, 3, 3, 3};
        for (int n = 1; n <= 4; n++) {
            due("flies below it, mostFlies(0, " + n + ")", y.mostFlies(0, n), own[n - 1]);
        }
        y.hop(0, 1);
        y.set(1);
        due("setting 0 is taken as 0", y.mostFlies(0, 1), 3);
        // Between two frogs it cannot go; what it ate so far does not count.
        y.frog(0, 0, 1);
        y.frog(0, 2, 1);
        due("shut in", y.mostFlies(0, 4), 0);
        LilyWheels z = pond("Pw3530w3430l0010l0210f001y017y115");
        int[] two = {7, 7, 7, 12};
        for (int n = 1; n <= 4; n++) {
            due("on two wheels, mostFlies(0, " + n + ")", z.mostFlies(0, n), two[n - 1]);
        }
        z.frog(0, 1, 1);
        due("those below another frog cannot be had", z.mostFlies(0, 1), 0);
        // Behind its leap wheel 0 turns by 1: line 1 leads to the pad 2 then.
        LilyWheels v = pond("Pw5530w3430l0010l0310f001f011f041y027");
        due("no leap yet", v.mostFlies(0, 1), 0);
        due("to the pad 2 by line 1, behind the turn", v.mostFlies(0, 2), 7);
        // Where the others are too heavy it comes to the pad 3, and hops.
        LilyWheels u = pond("Pw5501w3430l0010l0310f001f011f041y027");
        due("without the turn", u.mostFlies(0, 2), 0);
        due("without the turn, with a hop", u.mostFlies(0, 3), 7);
        // No fly comes: m = 1 would bring one to (1, 1), m = 2 one to (0, 2).
        LilyWheels t = pond("Pw3430w3430f001");
        due("no fly comes", t.mostFlies(0, 4), 0);
        refused(x, "mostFlies(1, 1)", NO_SUCH, () -> x.mostFlies(1, 1));
        refused(x, "mostFlies(-1, 1)", NO_SUCH, () -> x.mostFlies(-1, 1));
        refused(x, "mostFlies(1, 0): the frog comes first", NO_SUCH, () -> x.mostFlies(1, 0));
        refused(x, "mostFlies(0, 0)", BAD, () -> x.mostFlies(0, 0));
        refused(x, "mostFlies(0, 5)", BAD, () -> x.mostFlies(0, 5));
        for (int far : FAR_OFF) {
            refused(x, "mostFlies(far, 1)", NO_SUCH, () -> x.mostFlies(far, 1));
            refused(x, "mostFlies(0, far)", BAD, () -> x.mostFlies(0, far));
        }
    }

    private static void script(LilyWheels x, long group, boolean succeeds) {
        due("runScript(1, " + group + ")", x.runScript(1, group), succeeds ? NONE : 0);
    }

    // Promise 24
    private static void runScript() {
        LilyWheels x = three();
        due("turn(2, 2)", x.turn(2, 2), 2);
        due("leap(0, 0)", x.leap(0, 0), 0);
        // Frog 0 at (1, 1), it ate 5; frog 1 at (1, 3); turns 2, 0 and 2.
        long[] good = {10000, 11010, 20000, 20100, 21000, 21100, 30000, 30008, 32004, 40110, 41130, 50002, 51000, 52002,
            60000, 60005, 71000, 71100, 70102, 72106, 80000, 80011, 81001, 81010, 90000, 90005, 91000};
        long[] bad = {0, 1, 9999, 10001, 10010, 10040, 10990, 12000, 20200, 20900, 20110, 20101, 22000, 30009, 33004, 30104,
            30014, 40120, 40111, 40010, 42110, 40310, 40250, 50000, 50003, 53000, 50102, 50012, 60006, 61000, 60100,
            70103, 70110, 73000, 70500, 71001, 72300, 80001, 80010, 80012, 82000, 80040, 80990, 90006, 90105, 92000, 99000};
        for (long group : good) {
            script(x, group, true);
        }
        for (long group : bad) {
            script(x, group, false);
        }
        due("runScript(2, 40110)", x.runScript(2, 40110), 0);
        due("runScript(3, 4011050002)", x.runScript(3, 4011050002L), 0);
        due("runScript(3, 40110_50002_60005)", x.runScript(3, 401105000260005L), NONE);
        due("runScript(3, 40110_50002_60006)", x.runScript(3, 401105000260006L), 2);
        due("runScript(3, 40110_50003_60006)", x.runScript(3, 401105000360006L), 1);
        due("runScript(3, 999999999999999)", x.runScript(3, 999999999999999L), 0);
        due("runScript(1, 99999)", x.runScript(1, 99999), 0);
        due("runScript(1, 0)", x.runScript(1, 0), 0);
        refused(x, "runScript(0, 0)", BAD, () -> x.runScript(0, 0));
        refused(x, "runScript(4, 0)", BAD, () -> x.runScript(4, 0));
        refused(x, "runScript(1, -1)", BAD, () -> x.runScript(1, -1));
        refused(x, "runScript(1, 100000)", BAD, () -> x.runScript(1, 100000));
        refused(x, "runScript(2, 10000000000)", BAD, () -> x.runScript(2, 10000000000L));
        refused(x, "runScript(3, 1000000000000000)", BAD, () -> x.runScript(3, 1000000000000000L));
        refused(x, "runScript(3, the greatest)", BAD, () -> x.runScript(3, Long.MAX_VALUE));
        refused(x, "runScript(3, the least)", BAD, () -> x.runScript(3, Long.MIN_VALUE));
        for (int far : FAR_OFF) {
            refused(x, "runScript(far, 0)", BAD, () -> x.runScript(far, 0));
        }
    }

    private static void runScriptMoves() {
        LilyWheels x = three();
        String before = Seen.of(x);
        // It leaps to (1, 1), where it eats 5; wheel 0 turns by 2.
        due("a leap, and where it is", x.runScript(3, 100004011050002L), NONE);
        due("a leap, and what was eaten", x.runScript(3, 100006000590005L), NONE);
        due("a leap, and one fly too much", x.runScript(3, 100006000690006L), 1);
        due("a hop to the side 1", x.runScript(2, 2010040010L), NONE);
        due("a hop to the side -1", x.runScript(2, 2000040040L), NONE);
        due("a hop to the side -1, and 2 flies", x.runScript(3, 200009000390002L), 1);
        due("a turn by -4", x.runScript(2, 3000050001L), NONE);
        due("a turn by 4", x.runScript(2, 3000850004L), NONE);
        due("a turn by 5", x.runScript(2, 3000950000L), 0);
        due("a leap that cannot be made", x.runScript(2, 1001040000L), 0);
        due("the commands before the one that fails count", x.runScript(3, 100001000040000L), NONE);
        x.set(1);
        due("two moves of one frog, with setting 0 as 1", x.runScript(2, 2010020100L), 1);
        due("why it cannot, with setting 0 as 1", x.runScript(2, 1000080003L), NONE);
        due("undo()", x.undo(), 12);
        checks.due("scripts change nothing", Seen.of(x).equals(before));
        // The copy has the weights, too: frog 1 is too heavy for wheel 0.
        LilyWheels z = pond("Pw5608w4320l0011f001f029y114");
        due("a leap off a wheel that cannot turn", z.runScript(2, 1000050000L), NONE);
        // Frog 0 eats 4 flies, 1 that comes, and 9 more; the fly of the move 2
        // comes to frog 1: numbers of two digits.
        z.flies(1, 2, 9);
        due("9 eaten", z.runScript(3, 100002010060009L), NONE);
        due("15 eaten", z.runScript(3, 100002010060015L), NONE);
        due("16 eaten", z.runScript(3, 100002010060016L), 2);
        due("frog 0 ate 14", z.runScript(3, 100002010090014L), NONE);
        due("frog 0 ate 15", z.runScript(3, 100002010090015L), 2);
        LilyWheels y = new LilyWheels();
        for (long group : new long[] {10000, 20000, 30000, 40000, 50000, 70000, 80000, 90000}) {
            script(y, group, false);
        }
        script(y, 60000, true);
    }

    // Promise 25
    private static void simulate() {
        long[] seeds = new long[200];
        for (int i = 0; i < seeds.length; i++) {
            seeds[i] = i * 7046029254386353131L;
        }
        seeds[1] = Long.MIN_VALUE;
        seeds[2] = Long.MAX_VALUE;
        seeds[3] = -1;
        // Here a wheel of strength 30 matters, and many flies are eaten.
        seeds[4] = 205;
        seeds[5] = 115433;
        int moves = 0;
        for (long seed : seeds) {
            for (int m = 1; m <= 60; m += m == 1 ? 1 : 29) {
                for (int start = 0; start < 2; start++) {
                    LilyWheels x = start == 0 ? new LilyWheels() : three();
                    if (start == 1) {
                        x.leap(0, 0);
                        x.set(1);
                    }
                    int movesBefore = x.about(3);
                    int eatenBefore = x.about(5);
                    String before = Seen.of(x);
                    int got = x.simulate(seed, m);
                    checks.due("simulate() changes nothing", Seen.of(x).equals(before));
                    Turns.make(x, seed, m);
                    int made = x.about(3) - movesBefore;
                    moves += made;
                    due("simulate(" + seed + ", " + m + ")", got, 1000 * made + x.about(5) - eatenBefore);
                }
            }
        }
        checks.due("many moves were made", moves > 1000);
        LilyWheels x = three();
        refused(x, "simulate(0, 0)", BAD, () -> x.simulate(0, 0));
        refused(x, "simulate(0, 61)", BAD, () -> x.simulate(0, 61));
        for (int far : FAR_OFF) {
            refused(x, "simulate(0, far)", BAD, () -> x.simulate(0, far));
        }
    }

    // Promise 26
    private static void save() {
        LilyWheels x = three();
        due("save(0)", x.save(0), 0);
        x.leap(0, 0);
        due("save(1)", x.save(1), 1);
        String saved = Seen.of(x);
        due("undo(): save() is no action", x.undo(), 12);
        refused(x, "restore() of no slot", NO_SUCH, () -> x.restore(2));
        refused(x, "save(2)", NO_SUCH, () -> x.save(2));
        refused(x, "save(-1)", NO_SUCH, () -> x.save(-1));
        for (int far : FAR_OFF) {
            refused(x, "save(far)", NO_SUCH, () -> x.save(far));
        }
        x.flies(0, 0, 9);
        x.turn(0, 1);
        due("restore(1)", x.restore(1), 1);
        checks.due("what was saved is untouched", Seen.of(x).equals(saved));
        due("save(1) again", x.save(0), 1);
        due("restore(0): the later one is kept", x.restore(0), 1);
    }

    // Promise 27
    private static void restore() {
        LilyWheels x = three();
        refused(x, "restore(0): nothing is saved", STATE, () -> x.restore(0));
        x.set(1);
        x.save(0);
        String saved = Seen.of(x);
        refused(x, "restore(1): nothing is saved there", STATE, () -> x.restore(1));
        refused(x, "restore(2)", NO_SUCH, () -> x.restore(2));
        refused(x, "restore(-1)", NO_SUCH, () -> x.restore(-1));
        for (int far : FAR_OFF) {
            refused(x, "restore(far)", NO_SUCH, () -> x.restore(far));
        }
        due("undo(): the refused ones forget nothing", x.undo(), 12);
        x.leap(0, 0);
        x.hop(1, -1);
        x.append('P');
        due("restore(0)", x.restore(0), 0);
        due("the text stays", x.clearText(), 1);
        checks.due("all is as it was saved", Seen.of(x).equals(saved));
        refused(x, "undo() behind restore()", STATE, x::undo);
        x.leap(0, 0);
        due("undo() of what is done then", x.undo(), 0);
        x.leap(0, 0);
        due("restore(0) once more", x.restore(0), 0);
        checks.due("the slot keeps it", Seen.of(x).equals(saved));
        refused(x, "undo(): restore() is no action", STATE, x::undo);
        // What stood in the rows behind the last frog, wheel and line is not taken along.
        LilyWheels y = pond("Pw3430");
        y.frog(0, 1, 4);
        y.wheel(4, 2, 5);
        y.line(0, 0, 1, 3);
        y.save(1);
        String with = Seen.of(y);
        y.undo();
        y.undo();
        y.undo();
        y.frog(0, 2, 9);
        y.wheel(5, -3, 1);
        y.line(1, 4, 0, 2);
        due("restore(1)", y.restore(1), 0);
        checks.due("wheel, line and frog are those that were saved", Seen.of(y).equals(with));
    }

    // What would be: promises 20 to 25 change nothing, and are no actions.
    private static void thinkingChangesNothing() {
        LilyWheels x = three();
        x.leap(0, 0);
        String before = Seen.of(x);
        for (int f = 0; f < 2; f++) {
            x.why(f, 0);
            for (int w = 0; w < 3; w++) {
                x.couldBe(f, w);
                x.fewest(f, w, 1, 0);
                x.fewest(f, w, 1, 1);
            }
            for (int n = 1; n <= 4; n++) {
                x.mostFlies(f, n);
            }
        }
        x.runScript(3, 201002010030005L);
        x.simulate(7, 60);
        checks.due("thinking changes nothing", Seen.of(x).equals(before));
        due("undo() of the leap", x.undo(), 12);
        due("frog 0 is back", x.frogOf(0, 1), 0);
    }
}
