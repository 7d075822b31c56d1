/** The sentences on actions, undo and exceptions, and promises 11 to 19. */
final class ActionEdges {
    private static final int NONE = Sentences.NONE;
    private static final Class<IndexOutOfBoundsException> NO_SUCH = Sentences.NO_SUCH;
    private static final Class<IllegalArgumentException> BAD = Sentences.BAD;
    private static final Class<IllegalStateException> STATE = Sentences.STATE;

    private final Sentences s;

    private ActionEdges(Sentences s) {
        this.s = s;
    }

    static void tell(Sentences s) {
        ActionEdges it = new ActionEdges(s);
        it.actions();
        it.remembered();
        it.exceptions();
        it.wheel();
        it.line();
        it.frog();
        it.flies();
        it.leap();
        it.hop();
        it.turn();
        it.set();
        it.undo();
    }

    /** An action on the start SOME; its answer when it is made, and whether nothing becomes different. */
    private record Action(String name, int answer, boolean idle, Whole.Call made) {
    }

    private static final Action[] ACTIONS = {
        new Action("wheel", 2, false, x -> x.wheel(4, 1, 1)),
        new Action("line", 2, false, x -> x.line(0, 1, 1, 1)),
        new Action("frog", 2, false, x -> x.frog(0, 1, 1)),
        new Action("flies", 9, false, x -> x.flies(0, 1, 2)),
        new Action("leap that is not made: 1", 1, true, x -> x.leap(1, 0)),
        new Action("leap that is not made: 3", 3, true, x -> x.leap(0, 0)),
        new Action("hop", 0, false, x -> x.hop(1, -1)),
        new Action("hop that is not made: 2", 2, true, x -> x.hop(1, 1)),
        new Action("hop that is not made: 3", 3, true, x -> x.hop(0, 1)),
        new Action("turn", 3, false, x -> x.turn(0, 1)),
        new Action("turn by 0", 2, true, x -> x.turn(0, 0)),
        new Action("turn all the way round", 0, true, x -> x.turn(1, 3)),
        new Action("set", 1, false, x -> x.set(0)),
        new Action("set to what it is", 1, true, x -> x.set(1)),
    };

    private void actions() {
        s.tell(Sentences.TERMS, "The methods in the section \"actions\" change the state, which consists of everything but"
            + " the text and the save slots.", () -> {
                for (Action action : ACTIONS) {
                    LilyWheels x = Start.SOME.make();
                    String before = Seen.of(x);
                    action.made.on(x);
                    s.due(action.name + " changes the state", !Seen.of(x).equals(before) != action.idle);
                }
                LilyWheels x = Start.SOME.make();
                x.clearText();
                x.append('P');
                x.save(1);
                x.turn(0, 1);
                x.save(0);
                s.due("undo()", x.undo(), 10);
                s.due("the text is not undone", x.clearText(), 1);
                s.due("restore(0)", x.restore(0), 1);
                s.due("the slot 0 is not undone", x.wheelOf(0, 3), 3);
                s.due("restore(1)", x.restore(1), 1);
                s.due("nor is the slot 1", x.wheelOf(0, 3), 2);
            });
        s.tell(Sentences.TERMS, "Each call of one of them that does not throw an exception is an action, also if nothing"
            + " becomes different (undo is none).", () -> {
                // Ten actions made the start SOME.
                for (Action action : ACTIONS) {
                    LilyWheels x = Start.SOME.make();
                    String before = Seen.of(x);
                    s.due(action.name, action.made.on(x), action.answer);
                    s.due(action.name + " is remembered", x.undo(), 10);
                    s.same(action.name + " is taken back", Seen.of(x), before);
                    s.due("undo() is no action", x.undo(), 9);
                }
                LilyWheels y = new LilyWheels();
                y.append('P');
                y.save(0);
                y.errorPosition();
                y.about(0);
                y.runScript(1, 60000);
                y.simulate(5, 60);
                s.refused(y, "undo(): nothing of this is an action", STATE, LilyWheels::undo);
            });
        s.tell(Sentences.TERMS, "load and restore are not actions.", () -> {
            LilyWheels x = Start.SOME.make();
            x.load();
            s.refused(x, "undo() behind load()", STATE, LilyWheels::undo);
            LilyWheels y = Start.SOME.make();
            y.restore(0);
            s.refused(y, "undo() behind restore()", STATE, LilyWheels::undo);
        });
    }

    private void remembered() {
        s.tell(Sentences.TERMS, "Before each action, the state is remembered.", () -> {
            LilyWheels x = Start.EMPTY.make();
            Whole.Call[] calls = {y -> y.wheel(3, 1, 2), y -> y.wheel(4, 2, 3), y -> y.line(0, 0, 1, 0),
                y -> y.frog(0, 0, 1), y -> y.frog(0, 1, 2), y -> y.flies(1, 0, 9), y -> y.leap(0, 0), y -> y.hop(1, 1),
                y -> y.set(1), y -> y.turn(0, 1), y -> y.hop(1, 1), y -> y.hop(0, 1), y -> y.flies(0, 0, 9)};
            String[] before = new String[calls.length];
            for (int i = 0; i < calls.length; i++) {
                before[i] = Seen.of(x);
                calls[i].on(x);
            }
            for (int i = calls.length - 1; i >= 0; i--) {
                s.due("undo()", x.undo(), i);
                s.same("as ahead of the action " + i, Seen.of(x), before[i]);
            }
            s.refused(x, "undo()", STATE, LilyWheels::undo);
        });
        s.tell(Sentences.TERMS, "At most 14 states are remembered; when one more is remembered, the oldest one is forgotten.",
            () -> {
                for (int actions = 0; actions <= 45; actions++) {
                    LilyWheels x = new LilyWheels();
                    // The action i + 1 puts the wheel's turn to i modulo 5.
                    for (int i = 0; i < actions; i++) {
                        if (i == 0) {
                            x.wheel(5, 0, 0);
                        } else {
                            x.turn(0, 1);
                        }
                    }
                    int kept = Math.min(actions, 14);
                    for (int k = 1; k <= kept; k++) {
                        s.due("undo() number " + k + " of " + actions, x.undo(), kept - k);
                        s.due("its wheels", x.about(0), k == actions ? 0 : 1);
                        if (k < actions) {
                            s.due("its turn", x.wheelOf(0, 3), (actions - k - 1) % 5);
                        }
                    }
                    s.refused(x, "undo() behind all of " + actions, STATE, LilyWheels::undo);
                }
            });
        s.tell(Sentences.TERMS, "when one more is remembered, the oldest one is forgotten.", () -> {
            LilyWheels x = new LilyWheels();
            x.wheel(5, 0, 0);
            for (int i = 0; i < 20; i++) {
                x.turn(0, 1);
            }
            for (int i = 13; i >= 5; i--) {
                s.due("undo()", x.undo(), i);
            }
            s.due("the turn", x.wheelOf(0, 3), 1);
            for (int i = 0; i < 11; i++) {
                x.turn(0, 2);
            }
            s.due("the turn", x.wheelOf(0, 3), 3);
            for (int i = 13; i >= 3; i--) {
                s.due("undo()", x.undo(), i);
            }
            s.due("the turn", x.wheelOf(0, 3), 1);
            s.due("undo()", x.undo(), 2);
            s.due("the turn", x.wheelOf(0, 3), 0);
        });
    }

    private void exceptions() {
        s.tell(Sentences.TERMS, "IndexOutOfBoundsException means that a wheel, a place, a pad, a frog or a line does not"
            + " exist, or that a save slot is not 0 or 1.", () -> {
                s.refused(Start.SOME, "a wheel", NO_SUCH, x -> x.turn(2, 0));
                s.refused(Start.SOME, "a place", NO_SUCH, x -> x.flies(1, 3, 1));
                s.refused(Start.SOME, "a frog", NO_SUCH, x -> x.hop(2, 1));
                s.refused(Start.SOME, "a line", NO_SUCH, x -> x.leap(0, 2));
                s.refused(Start.SOME, "a save slot", NO_SUCH, x -> x.save(2));
            });
        s.tell(Sentences.TERMS, "IllegalArgumentException means that another argument is out of its range.", () -> {
            s.refused(Start.SOME, "a character", BAD, x -> x.append(256));
            s.refused(Start.SOME, "what", BAD, x -> x.about(11));
            s.refused(Start.SOME, "k", BAD, x -> x.turn(0, 5));
            s.refused(Start.SOME, "a way", BAD, x -> x.fewest(0, 0, 0, 2));
        });
        s.tell(Sentences.TERMS, "IllegalStateException means what the method says.", () -> {
            s.refused(Start.FULL, "a text of 120", STATE, x -> x.append('P'));
            s.refused(Start.EMPTY, "no pond", STATE, LilyWheels::load);
            s.refused(Start.FULL, "three wheels", STATE, x -> x.wheel(3, 0, 0));
            s.refused(Start.FULL, "eight lines", STATE, x -> x.line(0, 0, 1, 0));
            s.refused(Start.FULL, "five frogs", STATE, x -> x.frog(0, 0, 1));
            s.refused(Start.EMPTY, "nothing remembered", STATE, LilyWheels::undo);
            s.refused(Start.SOME, "nothing saved", STATE, x -> x.restore(1));
        });
        s.tell(Sentences.TERMS, "If several exceptions apply to a call, the one that its description names first is thrown.",
            () -> {
                s.refused(Start.FULL, "append: 1 of 2", BAD, x -> x.append(256));
                s.refused(Start.FULL, "wheel: 1 of 2", BAD, x -> x.wheel(6, 0, 0));
                s.refused(Start.FULL, "line: 1 of 3", NO_SUCH, x -> x.line(3, 0, 3, 0));
                s.refused(Start.FULL, "line: 2 of 3", BAD, x -> x.line(2, 0, 2, 0));
                s.refused(Start.FULL, "frog: 1 of 3", NO_SUCH, x -> x.frog(3, 0, 0));
                s.refused(Start.FULL, "frog: 2 of 3", BAD, x -> x.frog(2, 0, 0));
                s.refused(Start.FULL, "flies: 1 of 2", NO_SUCH, x -> x.flies(3, 0, 0));
                s.refused(Start.FULL, "hop: 1 of 2", NO_SUCH, x -> x.hop(5, 0));
                s.refused(Start.FULL, "turn: 1 of 2", NO_SUCH, x -> x.turn(3, 5));
                s.refused(Start.FULL, "fewest: 1 of 2", NO_SUCH, x -> x.fewest(0, 0, 5, 2));
                s.refused(Start.FULL, "mostFlies: 1 of 2", NO_SUCH, x -> x.mostFlies(5, 0));
                s.refused(Start.EMPTY, "restore: 1 of 2", NO_SUCH, x -> x.restore(2));
            });
        s.tell(Sentences.TERMS, "A call that throws an exception changes nothing.", () -> {
            // What is behind a refused call goes on as without it.
            LilyWheels x = Start.SOME.make();
            String before = Seen.of(x);
            x.turn(0, 1);
            s.refused(x, "wheel(3, 5, 0)", BAD, y -> y.wheel(3, 5, 0));
            s.refused(x, "frog(1, 1, 1)", STATE, y -> y.frog(1, 1, 1));
            s.due("undo() takes back the turn", x.undo(), 10);
            s.same("as ahead of the turn", Seen.of(x), before);
        });
    }

    private void wheel() {
        s.tell(11, "Adds a wheel.", () -> {
            LilyWheels x = new LilyWheels();
            x.wheel(4, -2, 7);
            int[] want = {4, -2, 7, 0, 0, 0, 2, 0};
            for (int what = 0; what <= 7; what++) {
                s.due("wheelOf(0, " + what + ")", x.wheelOf(0, what), want[what]);
            }
            // Those that are there already stay as they are.
            LilyWheels there = s.pond("Pw5630f009y049y001t04");
            there.wheel(3, 1, 1);
            there.wheel(3, 1, 1);
            int[] first = {5, 2, 30, 4, 9, 10, 5, 0};
            for (int what = 0; what <= 7; what++) {
                s.due("wheelOf(0, " + what + ")", there.wheelOf(0, what), first[what]);
            }
            s.due("flies on its last pad", there.placeOf(0, 3, 1), 9);
            // A wheel that was taken back leaves nothing to the next one of its number.
            x.frog(0, 0, 1);
            x.wheel(5, 4, 30);
            x.flies(1, 4, 9);
            x.turn(1, 3);
            x.line(1, 0, 0, 1);
            x.frog(1, 0, 1);
            x.leap(1, 0);
            for (int i = 0; i < 6; i++) {
                x.undo();
            }
            x.wheel(5, 4, 30);
            int[] then = {5, 4, 30, 0, 0, 0, 5, 0};
            for (int what = 0; what <= 7; what++) {
                s.due("wheelOf(1, " + what + ")", x.wheelOf(1, what), then[what]);
            }
        });
        s.tell(11, "n: 3 to 5", () -> {
            for (int n = 3; n <= 5; n++) {
                LilyWheels x = new LilyWheels();
                s.due("wheel(" + n + ", 0, 0)", x.wheel(n, 0, 0), 0);
                s.due("its places", x.wheelOf(0, 0), n);
            }
            for (int n : Sentences.beyond(3, 5)) {
                s.refusedAnywhere("wheel(" + n + ", 0, 0)", BAD, x -> x.wheel(n, 0, 0));
            }
        });
        s.tell(11, "notch: -4 to 4", () -> {
            for (int notch = -4; notch <= 4; notch++) {
                LilyWheels x = new LilyWheels();
                s.due("wheel(3, " + notch + ", 0)", x.wheel(3, notch, 0), 0);
                s.due("its notch", x.wheelOf(0, 1), notch);
            }
            for (int notch : Sentences.beyond(-4, 4)) {
                s.refusedAnywhere("wheel(3, " + notch + ", 0)", BAD, x -> x.wheel(3, notch, 0));
            }
        });
        s.tell(11, "strength: 0 to 30", () -> {
            for (int strength = 0; strength <= 30; strength++) {
                LilyWheels x = new LilyWheels();
                s.due("wheel(3, 0, " + strength + ")", x.wheel(3, 0, strength), 0);
                s.due("its strength", x.wheelOf(0, 2), strength);
            }
            for (int strength : Sentences.beyond(0, 30)) {
                s.refusedAnywhere("wheel(3, 0, " + strength + ")", BAD, x -> x.wheel(3, 0, strength));
            }
        });
        s.tell(11, "Returns its number.", () -> {
            LilyWheels x = new LilyWheels();
            for (int w = 0; w < 3; w++) {
                s.due("wheel()", x.wheel(3 + w, 0, 0), w);
            }
            x.undo();
            s.due("behind undo()", x.wheel(3, 0, 0), 2);
        });
        s.tell(11, "Throws IllegalArgumentException if an argument is out of range", () -> {
            s.refusedAnywhere("all three", BAD, x -> x.wheel(2, 5, 31));
            s.refusedAnywhere("the last one", BAD, x -> x.wheel(5, 4, 31));
        });
        s.tell(11, "Throws IllegalStateException if there are 3", () -> {
            s.refused(Start.FULL, "wheel(3, -4, 0)", STATE, x -> x.wheel(3, -4, 0));
            s.refused(Start.FULL, "wheel(5, 4, 30)", STATE, x -> x.wheel(5, 4, 30));
            s.refused(Start.FULL, "wheel(2, 0, 0): the argument comes first", BAD, x -> x.wheel(2, 0, 0));
            s.refused(Start.FULL, "wheel(3, -5, 0): the argument comes first", BAD, x -> x.wheel(3, -5, 0));
            s.refused(Start.FULL, "wheel(3, 0, 31): the argument comes first", BAD, x -> x.wheel(3, 0, 31));
            s.due("the third one is taken", Start.SOME.make().wheel(3, 0, 0), 2);
        });
    }

    private void line() {
        s.tell(12, "Adds a line.", () -> {
            LilyWheels x = s.pond("Pw5430w3430");
            s.due("line(0, 4, 1, 2)", x.line(0, 4, 1, 2), 0);
            s.due("it ends at (0, 4)", x.placeOf(0, 4, 3), 1);
            s.due("it ends at (1, 2)", x.placeOf(1, 2, 3), 1);
            s.due("one that is there already", x.line(0, 4, 1, 2), 1);
            s.due("the same the other way", x.line(1, 2, 0, 4), 2);
            s.due("they end at (0, 4)", x.placeOf(0, 4, 3), 3);
            s.due("lines", x.about(1), 3);
        });
        s.tell(12, "w: wheel of its first end", () -> {
            for (int w : Sentences.beyond(0, 2)) {
                s.refusedAnywhere("line(" + w + ", 0, 1, 0)", NO_SUCH, x -> x.line(w, 0, 1, 0));
            }
            s.refused(Start.SOME, "line(2, 0, 1, 0)", NO_SUCH, x -> x.line(2, 0, 1, 0));
        });
        s.tell(12, "p: place of its first end", () -> {
            for (int p : Sentences.beyond(0, 4)) {
                s.refusedAnywhere("line(0, " + p + ", 1, 0)", NO_SUCH, x -> x.line(0, p, 1, 0));
            }
            s.refused(Start.SOME, "line(1, 3, 0, 0)", NO_SUCH, x -> x.line(1, 3, 0, 0));
            s.due("line(1, 2, 0, 0)", Start.SOME.make().line(1, 2, 0, 0), 2);
            s.due("line(0, 4, 1, 0)", Start.SOME.make().line(0, 4, 1, 0), 2);
        });
        s.tell(12, "w2: wheel of its other end", () -> {
            for (int w2 : Sentences.beyond(0, 2)) {
                s.refusedAnywhere("line(1, 0, " + w2 + ", 0)", NO_SUCH, x -> x.line(1, 0, w2, 0));
            }
            s.refused(Start.SOME, "line(0, 0, 2, 0)", NO_SUCH, x -> x.line(0, 0, 2, 0));
        });
        s.tell(12, "p2: place of its other end", () -> {
            for (int p2 : Sentences.beyond(0, 4)) {
                s.refusedAnywhere("line(1, 0, 0, " + p2 + ")", NO_SUCH, x -> x.line(1, 0, 0, p2));
            }
            s.refused(Start.SOME, "line(0, 0, 1, 3)", NO_SUCH, x -> x.line(0, 0, 1, 3));
            s.due("line(0, 0, 1, 2)", Start.SOME.make().line(0, 0, 1, 2), 2);
            s.due("line(1, 0, 0, 4)", Start.SOME.make().line(1, 0, 0, 4), 2);
        });
        s.tell(12, "Returns its number.", () -> {
            LilyWheels x = s.pond("Pw3430w3430");
            for (int l = 0; l < 8; l++) {
                s.due("line()", x.line(0, 0, 1, 0), l);
            }
            x.undo();
            s.due("behind undo()", x.line(1, 2, 0, 1), 7);
            s.due("its other place", x.lineOf(7, 3), 1);
        });
        s.tell(12, "Throws IndexOutOfBoundsException if there is no such wheel or place", () -> {
            s.refused(Start.EMPTY, "line(0, 0, 1, 0)", NO_SUCH, x -> x.line(0, 0, 1, 0));
            s.refusedAnywhere("line(9, 9, 9, 9): the wheel comes first", NO_SUCH, x -> x.line(9, 9, 9, 9));
            s.refused(Start.SOME, "line(1, 3, 1, 0): the place comes first", NO_SUCH, x -> x.line(1, 3, 1, 0));
            s.refused(Start.SOME, "line(1, 0, 1, 3): the place comes first", NO_SUCH, x -> x.line(1, 0, 1, 3));
            s.refused(Start.FULL, "line(0, 0, 1, 4): the place comes first", NO_SUCH, x -> x.line(0, 0, 1, 4));
            s.refused(Start.FULL, "line(2, 3, 1, 0): the place comes first", NO_SUCH, x -> x.line(2, 3, 1, 0));
            s.refused(Start.FULL, "line(2, 3, 2, 0): the place comes first", NO_SUCH, x -> x.line(2, 3, 2, 0));
        });
        s.tell(12, "Throws IllegalArgumentException if both wheels are the same", () -> {
            for (int w = 0; w < 2; w++) {
                int its = w;
                for (int p = 0; p < 3; p++) {
                    int place = p;
                    s.refused(Start.SOME, "line(" + w + ", 0, " + w + ", " + p + ")", BAD, x -> x.line(its, 0, its, place));
                }
            }
            s.refused(Start.FULL, "line(2, 0, 2, 2): the wheels come ahead of how many there are", BAD,
                x -> x.line(2, 0, 2, 2));
        });
        s.tell(12, "Throws IllegalStateException if there are 8 lines", () -> {
            s.refused(Start.FULL, "line(0, 2, 1, 2)", STATE, x -> x.line(0, 2, 1, 2));
            s.refused(Start.FULL, "one that is there already", STATE, x -> x.line(0, 0, 1, 1));
            LilyWheels x = s.pond("Pw3430w3430l0010l0010l0010l0010l0010l0010l0010");
            s.due("the eighth one", x.line(0, 1, 1, 1), 7);
            s.refused(x, "the ninth one", STATE, y -> y.line(0, 1, 1, 1));
        });
    }

    private void frog() {
        s.tell(13, "Adds a frog, on the pad that lies at a place; flies on it stay until it comes there by a move.", () -> {
            LilyWheels x = s.pond("Pw5430w3430y023y034");
            x.turn(0, 3);
            s.due("frog(0, 0, 4)", x.frog(0, 0, 4), 0);
            int[] want = {4, 0, 2, 0, 0, 0};
            for (int what = 0; what <= 5; what++) {
                s.due("frogOf(0, " + what + ")", x.frogOf(0, what), want[what]);
            }
            s.due("flies on its pad", x.placeOf(0, 0, 1), 3);
            x.turn(0, 1);
            s.due("flies on its pad behind a turn", x.placeOf(0, 1, 1), 3);
            // m = 1: wheel 1, place 1. m = 2: wheel 0, place 2, where the pad 3 lies then.
            x.hop(0, 1);
            s.due("behind a hop off it", x.placeOf(0, 1, 1), 3);
            s.due("it ate those to which it came", x.frogOf(0, 4), 4);
            x.hop(0, -1);
            s.due("behind a hop onto it", x.placeOf(0, 1, 1), 0);
            s.due("it ate", x.frogOf(0, 4), 7);
            s.due("the fly of the move 2", x.placeOf(0, 2, 1), 1);
        });
        s.tell(13, "w: wheel", () -> {
            for (int w = 0; w < 2; w++) {
                LilyWheels x = s.pond("Pw3430w3430");
                x.frog(w, 2, 1);
                s.due("its wheel", x.frogOf(0, 1), w);
            }
        });
        s.tell(13, "p: place", () -> {
            for (int p = 0; p < 5; p++) {
                LilyWheels x = s.pond("Pw5430t04");
                x.frog(0, p, 1);
                s.due("its place", x.frogOf(0, 3), p);
                s.due("its pad", x.frogOf(0, 2), (p + 1) % 5);
            }
        });
        s.tell(13, "weight: 1 to 9", () -> {
            for (int weight = 1; weight <= 9; weight++) {
                LilyWheels x = s.pond("Pw3430");
                s.due("frog(0, 0, " + weight + ")", x.frog(0, 0, weight), 0);
                s.due("its weight", x.frogOf(0, 0), weight);
            }
        });
        s.tell(13, "Returns its number.", () -> {
            LilyWheels x = s.pond("Pw5430");
            for (int f = 0; f < 5; f++) {
                s.due("frog()", x.frog(0, 4 - f, 1), f);
            }
            x.undo();
            s.due("behind undo()", x.frog(0, 0, 3), 4);
            s.due("its weight", x.frogOf(4, 0), 3);
            // A frog that was taken back leaves nothing to the next one of its number.
            LilyWheels y = s.pond("Pw5430y019");
            y.frog(0, 0, 1);
            y.hop(0, 1);
            y.undo();
            y.undo();
            y.frog(0, 0, 1);
            s.due("what it ate, and its moves", y.frogOf(0, 4) + y.frogOf(0, 5), 0);
            LilyWheels z = s.pond("Pw5430f001y019");
            z.save(0);
            z.hop(0, 1);
            Start.write(z, "Pw5430");
            z.load();
            z.frog(0, 0, 1);
            s.due("what it ate, and its moves", z.frogOf(0, 4) + z.frogOf(0, 5), 0);
        });
        s.tell(13, "Throws IndexOutOfBoundsException if there is no such wheel or place", () -> {
            for (int w : Sentences.beyond(0, 2)) {
                s.refusedAnywhere("frog(" + w + ", 0, 1)", NO_SUCH, x -> x.frog(w, 0, 1));
                s.refusedAnywhere("frog(" + w + ", 0, 0): the wheel comes first", NO_SUCH, x -> x.frog(w, 0, 0));
            }
            for (int p : Sentences.beyond(0, 4)) {
                s.refusedAnywhere("frog(0, " + p + ", 1)", NO_SUCH, x -> x.frog(0, p, 1));
                s.refusedAnywhere("frog(0, " + p + ", 10): the place comes first", NO_SUCH, x -> x.frog(0, p, 10));
            }
            s.refused(Start.EMPTY, "frog(0, 0, 1)", NO_SUCH, x -> x.frog(0, 0, 1));
            s.refused(Start.SOME, "frog(2, 0, 1)", NO_SUCH, x -> x.frog(2, 0, 1));
            s.refused(Start.SOME, "frog(1, 3, 1)", NO_SUCH, x -> x.frog(1, 3, 1));
        });
        s.tell(13, "Throws IllegalArgumentException if weight is out of range", () -> {
            for (int weight : Sentences.beyond(1, 9)) {
                s.refused(Start.SOME, "frog(0, 0, " + weight + ")", BAD, x -> x.frog(0, 0, weight));
                s.refused(Start.SOME, "where a frog sits", BAD, x -> x.frog(1, 0, weight));
                s.refused(Start.FULL, "where there are 5", BAD, x -> x.frog(1, 0, weight));
            }
        });
        s.tell(13, "Throws IllegalStateException if a frog sits there, or there are 5", () -> {
            s.refused(Start.SOME, "where frog 0 sits", STATE, x -> x.frog(1, 1, 1));
            s.refused(Start.SOME, "where frog 1 sits", STATE, x -> x.frog(1, 0, 9));
            s.due("beside them", Start.SOME.make().frog(1, 2, 1), 2);
            s.due("where frog 0 sat once", Start.SOME.make().frog(0, 2, 1), 2);
            LilyWheels x = s.pond("Pw5430f001f011f021f031");
            s.due("the fifth one", x.frog(0, 4, 1), 4);
            s.refused(x, "a sixth one where frog 4 sits", STATE, y -> y.frog(0, 4, 1));
            for (int w = 0; w < 3; w++) {
                for (int p = 0; p < 5 - w; p++) {
                    int wheel = w;
                    int place = p;
                    s.refused(Start.FULL, "frog(" + w + ", " + p + ", 1)", STATE, y -> y.frog(wheel, place, 1));
                }
            }
            LilyWheels turned = s.pond("Pw3430f001t01");
            s.refused(turned, "where its pad has gone", STATE, y -> y.frog(0, 1, 1));
            s.due("where its pad has been", turned.frog(0, 0, 1), 1);
        });
    }

    private void flies() {
        s.tell(14, "Brings flies to the pad that lies at a place, also if a frog sits there; those above 9 go off.", () -> {
            for (int there = 0; there <= 9; there++) {
                for (int n = 1; n <= 9; n++) {
                    LilyWheels x = s.pond("Pw4430f021t01");
                    if (there > 0) {
                        x.flies(0, 3, there);
                    }
                    s.due(there + " and " + n, x.flies(0, 3, n), Math.min(9, there + n));
                    s.due("gone off", x.about(6), Math.max(0, there + n - 9));
                    s.due("brought", x.about(7), there + n);
                    s.due("eaten by the frog that sits there", x.frogOf(0, 4) + x.about(5), 0);
                    s.due("on the pads", x.about(4), Math.min(9, there + n));
                }
            }
        });
        s.tell(14, "w: wheel", () -> {
            LilyWheels x = s.pond("Pw3430w3430w3430");
            for (int w = 0; w < 3; w++) {
                x.flies(w, 1, w + 1);
            }
            for (int w = 0; w < 3; w++) {
                s.due("on the wheel " + w, x.wheelOf(w, 5), w + 1);
            }
        });
        s.tell(14, "p: place", () -> {
            LilyWheels x = s.pond("Pw5430t03");
            for (int p = 0; p < 5; p++) {
                x.flies(0, p, p + 1);
            }
            for (int p = 0; p < 5; p++) {
                s.due("at the place " + p, x.placeOf(0, p, 1), p + 1);
            }
        });
        s.tell(14, "n: 1 to 9: how many", () -> {
            for (int n = 1; n <= 9; n++) {
                LilyWheels x = s.pond("Pw3430");
                s.due("flies(0, 2, " + n + ")", x.flies(0, 2, n), n);
            }
        });
        s.tell(14, "Returns the flies on it then.", () -> {
            LilyWheels x = s.pond("Pw3430");
            s.due("8", x.flies(0, 2, 8), 8);
            s.due("8 and 1", x.flies(0, 2, 1), 9);
            s.due("9 and 1", x.flies(0, 2, 1), 9);
            s.due("9 and 9", x.flies(0, 2, 9), 9);
        });
        s.tell(14, "Throws IndexOutOfBoundsException if there is no such wheel or place", () -> {
            for (int w : Sentences.beyond(0, 2)) {
                s.refusedAnywhere("flies(" + w + ", 0, 1)", NO_SUCH, x -> x.flies(w, 0, 1));
                s.refusedAnywhere("flies(" + w + ", 0, 0): the wheel comes first", NO_SUCH, x -> x.flies(w, 0, 0));
            }
            for (int p : Sentences.beyond(0, 4)) {
                s.refusedAnywhere("flies(0, " + p + ", 1)", NO_SUCH, x -> x.flies(0, p, 1));
                s.refusedAnywhere("flies(0, " + p + ", 10): the place comes first", NO_SUCH, x -> x.flies(0, p, 10));
            }
            s.refused(Start.EMPTY, "flies(0, 0, 1)", NO_SUCH, x -> x.flies(0, 0, 1));
            s.refused(Start.SOME, "flies(2, 0, 1)", NO_SUCH, x -> x.flies(2, 0, 1));
            s.refused(Start.SOME, "flies(1, 3, 1)", NO_SUCH, x -> x.flies(1, 3, 1));
        });
        s.tell(14, "Throws IllegalArgumentException if n is out of range", () -> {
            for (int n : Sentences.beyond(1, 9)) {
                s.refused(Start.SOME, "flies(0, 0, " + n + ")", BAD, x -> x.flies(0, 0, n));
                s.refused(Start.FULL, "flies(2, 2, " + n + ")", BAD, x -> x.flies(2, 2, n));
            }
        });
    }

    private void leap() {
        s.tell(15, "A frog leaps along a line, if it can.", () -> {
            LilyWheels x = s.pond("Pw5530w4530w3530l0420l2113l1304f209f041y206y137");
            s.due("leap(1, 0): frog 0 sits there", x.leap(1, 0), 2);
            s.due("it stays", 10 * x.frogOf(1, 1) + x.frogOf(1, 3), 4);
            s.due("leap(1, 2), from the other end", x.leap(1, 2), 0);
            s.due("it is there", 10 * x.frogOf(1, 1) + x.frogOf(1, 3), 13);
            s.due("it ate", x.frogOf(1, 4), 7);
            s.due("leap(1, 1), from the other end", x.leap(1, 1), 0);
            s.due("it is there", 10 * x.frogOf(1, 1) + x.frogOf(1, 3), 21);
            s.due("the turns", 100 * x.wheelOf(0, 3) + 10 * x.wheelOf(1, 3) + x.wheelOf(2, 3), 110);
        });
        s.tell(15, "f: frog", () -> {
            LilyWheels x = s.pond("Pw5430w5430l0410f001f011f021f031f041");
            for (int f = 0; f < 4; f++) {
                s.due("leap(" + f + ", 0)", x.leap(f, 0), 1);
            }
            s.due("leap(4, 0)", x.leap(4, 0), 0);
        });
        s.tell(15, "l: line", () -> {
            LilyWheels x = s.pond("Pw5430w5430l0110l0110l0110l0110l0110l0110l0110l0014f001");
            for (int l = 0; l < 7; l++) {
                s.due("leap(0, " + l + ")", x.leap(0, l), 1);
            }
            s.due("leap(0, 7)", x.leap(0, 7), 0);
            s.due("its place", x.frogOf(0, 3), 4);
        });
        s.tell(15, "Returns 0 if it leaps, otherwise the reason why it cannot.", () -> {
            LilyWheels x = Start.SOME.make();
            s.due("neither end is there", x.leap(0, 1), 1);
            s.due("it made the latest move, and setting 0 is 1", x.leap(0, 0), 3);
            x.frog(0, 0, 1);
            s.due("a frog sits there", x.leap(0, 0), 2);
            x.undo();
            x.undo();
            x.set(0);
            s.due("it leaps", x.leap(0, 0), 0);
            s.due("moves", x.about(3), 2);
        });
        s.tell(15, "Throws IndexOutOfBoundsException if there is no such frog or line", () -> {
            for (int f : Sentences.beyond(0, 4)) {
                s.refusedAnywhere("leap(" + f + ", 0)", NO_SUCH, x -> x.leap(f, 0));
            }
            for (int l : Sentences.beyond(0, 7)) {
                s.refusedAnywhere("leap(0, " + l + ")", NO_SUCH, x -> x.leap(0, l));
            }
            s.refused(Start.EMPTY, "leap(0, 0)", NO_SUCH, x -> x.leap(0, 0));
            s.refused(Start.SOME, "leap(2, 0)", NO_SUCH, x -> x.leap(2, 0));
            s.refused(Start.SOME, "leap(0, 2)", NO_SUCH, x -> x.leap(0, 2));
            s.refused(s.pond("Pw3430w3430l0010"), "leap(0, 0) without frogs", NO_SUCH, x -> x.leap(0, 0));
            s.refused(s.pond("Pw3430w3430f001"), "leap(0, 0) without lines", NO_SUCH, x -> x.leap(0, 0));
        });
    }

    private void hop() {
        s.tell(16, "A frog hops, if it can.", () -> {
            LilyWheels x = s.pond("Pw3430w5430f001f021f141y137y123");
            s.due("hop(0, -1): frog 1 sits there", x.hop(0, -1), 2);
            s.due("it stays", x.frogOf(0, 3), 0);
            s.due("hop(2, -1)", x.hop(2, -1), 0);
            s.due("its place", 10 * x.frogOf(2, 1) + x.frogOf(2, 3), 13);
            s.due("it ate", x.frogOf(2, 4), 7);
        });
        s.tell(16, "f: frog", () -> {
            LilyWheels x = s.pond("Pw5430w5430f001f011f021f101f121");
            s.due("hop(4, 1)", x.hop(4, 1), 0);
            int[] places = {0, 1, 2, 0, 3};
            for (int f = 0; f < 5; f++) {
                s.due("the place of frog " + f, x.frogOf(f, 3), places[f]);
            }
        });
        s.tell(16, "side: 1 or -1", () -> {
            s.due("hop(0, 1)", s.pond("Pw3430f001").hop(0, 1), 0);
            s.due("hop(0, -1)", s.pond("Pw3430f001").hop(0, -1), 0);
        });
        s.tell(16, "Returns 0 if it hops, otherwise the reason why it cannot.", () -> {
            LilyWheels x = Start.SOME.make();
            s.due("frog 0 sits there", x.hop(1, 1), 2);
            s.due("it made the latest move, and setting 0 is 1", x.hop(0, 1), 3);
            s.due("both", x.hop(0, -1), 2);
            s.due("it hops", x.hop(1, -1), 0);
            s.due("moves", x.about(3), 2);
            s.due("never 1: no line is needed", s.pond("Pw3430f001").hop(0, 1), 0);
        });
        s.tell(16, "Throws IndexOutOfBoundsException if there is no such frog", () -> {
            for (int f : Sentences.beyond(0, 4)) {
                s.refusedAnywhere("hop(" + f + ", 1)", NO_SUCH, x -> x.hop(f, 1));
                s.refusedAnywhere("hop(" + f + ", 0): the frog comes first", NO_SUCH, x -> x.hop(f, 0));
                s.refusedAnywhere("hop(" + f + ", 2): the frog comes first", NO_SUCH, x -> x.hop(f, 2));
            }
            s.refused(Start.EMPTY, "hop(0, -1)", NO_SUCH, x -> x.hop(0, -1));
            s.refused(Start.SOME, "hop(2, -1)", NO_SUCH, x -> x.hop(2, -1));
            s.refused(s.pond("Pw3430"), "hop(0, 1) without frogs", NO_SUCH, x -> x.hop(0, 1));
        });
        s.tell(16, "Throws IllegalArgumentException if side is neither 1 nor -1", () -> {
            for (int side : new int[] {0, 2, -2, 3, -3, 257, -255, Integer.MIN_VALUE, Integer.MAX_VALUE}) {
                s.refused(Start.SOME, "hop(1, " + side + ")", BAD, x -> x.hop(1, side));
                s.refused(Start.SOME, "hop(0, " + side + "), where it could not", BAD, x -> x.hop(0, side));
                s.refused(Start.FULL, "hop(4, " + side + ")", BAD, x -> x.hop(4, side));
            }
        });
    }

    private void turn() {
        s.tell(17, "Turns a wheel by hand. (This is no move.)", () -> {
            LilyWheels x = s.pond("Pw5430w3430f009f019y025l0010");
            x.set(1);
            x.hop(1, 1);
            String[] names = {"moves", "the latest frog", "flies that came"};
            int[] what = {3, 8, 7};
            int[] before = {x.about(3), x.about(8), x.about(7)};
            s.due("turn(0, 1): no weight keeps it from that", x.turn(0, 1), 1);
            for (int i = 0; i < 3; i++) {
                s.due(names[i], x.about(what[i]), before[i]);
            }
            s.due("frog 0 goes round", x.frogOf(0, 3), 1);
            s.due("it eats nothing", x.frogOf(0, 4), 0);
            s.due("turns by a leap", x.wheelOf(0, 7), 0);
            s.due("the other wheel", x.wheelOf(1, 3), 0);
            s.due("the frog of the latest move is still the same", x.hop(1, 1), 3);
        });
        s.tell(17, "w: wheel", () -> {
            for (int w = 0; w < 3; w++) {
                LilyWheels x = s.pond("Pw3430w3430w3430");
                x.turn(w, 2);
                for (int v = 0; v < 3; v++) {
                    s.due("the turn of " + v, x.wheelOf(v, 3), v == w ? 2 : 0);
                }
            }
        });
        s.tell(17, "k: -4 to 4", () -> {
            for (int k = -4; k <= 4; k++) {
                s.due("turn(0, " + k + ")", s.pond("Pw5430").turn(0, k), Math.floorMod(k, 5));
            }
        });
        s.tell(17, "Returns its turn then.", () -> {
            LilyWheels x = s.pond("Pw3430w4430");
            int[] by = {4, 4, -4, -3, 2, 3, -1, -1, 0};
            int[] want = {1, 2, 1, 1, 0, 0, 2, 1, 1};
            for (int i = 0; i < by.length; i++) {
                s.due("turn(0, " + by[i] + ")", x.turn(0, by[i]), want[i]);
                s.due("wheelOf(0, 3)", x.wheelOf(0, 3), want[i]);
            }
            s.due("turn(1, 4)", x.turn(1, 4), 0);
            s.due("turn(1, -4)", x.turn(1, -4), 0);
        });
        s.tell(17, "Throws IndexOutOfBoundsException if there is no such wheel", () -> {
            for (int w : Sentences.beyond(0, 2)) {
                s.refusedAnywhere("turn(" + w + ", 1)", NO_SUCH, x -> x.turn(w, 1));
                s.refusedAnywhere("turn(" + w + ", 5): the wheel comes first", NO_SUCH, x -> x.turn(w, 5));
            }
            s.refused(Start.EMPTY, "turn(0, 0)", NO_SUCH, x -> x.turn(0, 0));
            s.refused(Start.SOME, "turn(2, 0)", NO_SUCH, x -> x.turn(2, 0));
        });
        s.tell(17, "Throws IllegalArgumentException if k is out of range", () -> {
            for (int k : Sentences.beyond(-4, 4)) {
                s.refused(Start.SOME, "turn(1, " + k + ")", BAD, x -> x.turn(1, k));
                s.refused(Start.FULL, "turn(2, " + k + ")", BAD, x -> x.turn(2, k));
            }
        });
    }

    private void set() {
        s.tell(18, "Changes setting 0.", () -> {
            LilyWheels x = s.pond("Pw3430f001");
            x.hop(0, 1);
            x.set(1);
            s.due("hop(0, 1)", x.hop(0, 1), 3);
            x.set(0);
            s.due("hop(0, 1)", x.hop(0, 1), 0);
        });
        s.tell(18, "v: 0 or 1", () -> {
            LilyWheels x = new LilyWheels();
            for (int v : new int[] {0, 1, 1, 0, 0}) {
                x.set(v);
                s.due("about(9)", x.about(9), v);
            }
        });
        s.tell(18, "Returns the previous one.", () -> {
            LilyWheels x = new LilyWheels();
            s.due("set(0) at first", x.set(0), 0);
            s.due("set(1)", x.set(1), 0);
            s.due("set(1)", x.set(1), 1);
            s.due("set(0)", x.set(0), 1);
            x.undo();
            s.due("set(0) behind undo()", x.set(0), 1);
        });
        s.tell(18, "Throws IllegalArgumentException if v is neither 0 nor 1", () -> {
            for (int v : Sentences.beyond(0, 1)) {
                s.refusedAnywhere("set(" + v + ")", BAD, x -> x.set(v));
            }
        });
    }

    private void undo() {
        s.tell(19, "Takes back the last action that is remembered.", () -> {
            LilyWheels x = Start.SOME.make();
            s.due("setting 0", x.about(9), 1);
            x.undo();
            s.due("setting 0 is taken back", x.about(9), 0);
            s.due("the leap is not", x.about(3), 1);
            x.undo();
            s.due("now it is", x.about(3), 0);
            s.due("the wheel, too", x.wheelOf(0, 3), 0);
            s.due("and the flies", x.about(4), 12);
            x.undo();
            s.due("flies", x.about(4), 4);
            // What is done then is the last one.
            x.turn(1, 1);
            x.undo();
            s.due("the turn", x.wheelOf(1, 3), 0);
            s.due("flies", x.about(4), 4);
            s.due("still remembered", x.undo(), 6);
            s.due("flies", x.about(4), 0);
        });
        s.tell(19, "Returns how many states are still remembered.", () -> {
            LilyWheels some = Start.SOME.make();
            for (int i = 9; i >= 0; i--) {
                s.due("undo() of ten actions", some.undo(), i);
            }
            LilyWheels full = Start.FULL.make();
            for (int i = 13; i >= 0; i--) {
                s.due("undo() of 14", full.undo(), i);
            }
        });
        s.tell(19, "Throws IllegalStateException if none is remembered", () -> {
            s.refused(Start.EMPTY, "undo()", STATE, LilyWheels::undo);
            LilyWheels x = new LilyWheels();
            x.set(1);
            s.due("the last one", x.undo(), 0);
            s.refused(x, "undo()", STATE, LilyWheels::undo);
            LilyWheels full = Start.FULL.make();
            for (int i = 0; i < 14; i++) {
                full.undo();
            }
            s.refused(full, "undo() behind 14", STATE, LilyWheels::undo);
            s.refused(full, "undo() again", STATE, LilyWheels::undo);
            LilyWheels y = Start.SOME.make();
            y.restore(0);
            s.refused(y, "undo() behind restore()", STATE, LilyWheels::undo);
            y.load();
            s.refused(y, "undo() behind load()", STATE, LilyWheels::undo);
        });
    }
}
