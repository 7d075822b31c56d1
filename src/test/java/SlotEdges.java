/** Promises 26 and 27: save slots. */
final class SlotEdges {
    private static final Class<IndexOutOfBoundsException> NO_SUCH = Sentences.NO_SUCH;
    private static final Class<IllegalStateException> STATE = Sentences.STATE;

    private final Sentences s;

    private SlotEdges(Sentences s) {
        this.s = s;
    }

    static void tell(Sentences s) {
        SlotEdges it = new SlotEdges(s);
        it.save();
        it.restore();
        it.restoreForgets();
    }

    private void save() {
        s.tell(26, "Stores the present state in a save slot.", () -> {
            for (Start start : Start.values()) {
                for (int slot = 0; slot <= 1; slot++) {
                    LilyWheels x = start.make();
                    String saved = Seen.of(x);
                    int moves = x.about(3);
                    x.save(slot);
                    s.same("save() changes nothing else", Seen.of(x), saved);
                    disturb(x);
                    s.due("something has changed", !Seen.of(x).equals(saved));
                    s.due(start + ": restore(" + slot + ")", x.restore(slot), moves);
                    s.same(start + ": what was saved", Seen.of(x), saved);
                }
            }
            LilyWheels x = Start.SOME.make();
            x.save(0);
            s.due("what was saved before is replaced", x.restore(0), 1);
            // The two slots are told apart.
            LilyWheels y = s.pond("Pw3430");
            y.save(0);
            y.turn(0, 1);
            y.save(1);
            y.turn(0, 1);
            y.restore(0);
            s.due("the turn in slot 0", y.wheelOf(0, 3), 0);
            y.restore(1);
            s.due("the turn in slot 1", y.wheelOf(0, 3), 1);
        });
        s.tell(26, "Stores the present state in a save slot.", () -> {
            LilyWheels x = Start.SOME.make();
            x.save(1);
            s.due("undo(): save() is no action, and forgets none", x.undo(), 9);
            s.due("about(9) behind undo()", x.about(9), 0);
            s.due("undo() does not empty the slot", x.restore(1), 1);
            s.due("about(9) as saved", x.about(9), 1);
            LilyWheels y = Start.SOME.make();
            y.save(1);
            y.append('x');
            y.restore(1);
            s.due("the text is not saved", y.clearText(), 11);
        });
        s.tell(26, "slot: 0 or 1", () -> {
            for (int slot = 0; slot <= 1; slot++) {
                LilyWheels x = s.pond("Pw3430");
                s.due("save(" + slot + ")", x.save(slot), 0);
                int other = 1 - slot;
                s.refused(x, "restore() of the other one", STATE, y -> y.restore(other));
                s.due("restore(" + slot + ")", x.restore(slot), 0);
            }
        });
        s.tell(26, "Returns the moves so far.", () -> {
            LilyWheels x = s.pond("Pw3430f001");
            for (int m = 0; m <= 20; m++) {
                s.due("save()", x.save(m % 2), m);
                x.hop(0, 1);
            }
            x.undo();
            s.due("behind undo()", x.save(0), 20);
        });
        s.tell(26, "Throws IndexOutOfBoundsException if there is no such save slot", () -> {
            for (int slot : Sentences.beyond(0, 1)) {
                s.refusedAnywhere("save(" + slot + ")", NO_SUCH, x -> x.save(slot));
            }
        });
    }

    private static void disturb(LilyWheels x) {
        x.set(1 - x.about(9));
        if (x.about(0) == 0) {
            x.wheel(3, 0, 0);
            x.frog(0, 0, 1);
        }
        x.turn(0, 1);
        x.flies(0, 0, 9);
        x.hop(0, 1);
    }

    private void restore() {
        s.tell(27, "Replaces the state by the one in a save slot, and forgets all remembered states.", () -> {
            LilyWheels x = new LilyWheels();
            x.save(0);
            x.wheel(5, 1, 1);
            x.wheel(4, 1, 1);
            x.line(0, 0, 1, 0);
            x.frog(0, 0, 1);
            x.flies(0, 1, 9);
            x.hop(0, 1);
            x.leap(0, 0);
            x.set(1);
            String all = Seen.of(x);
            x.save(1);
            s.due("restore(0)", x.restore(0), 0);
            s.same("nothing is there, as in a new object", Seen.of(x), Seen.of(new LilyWheels()));
            s.refused(x, "undo()", STATE, LilyWheels::undo);
            s.due("restore(1)", x.restore(1), 1);
            s.same("all is there again", Seen.of(x), all);
            s.refused(x, "undo()", STATE, LilyWheels::undo);
        });
        s.tell(27, "The save slot keeps it.", () -> {
            LilyWheels x = Start.SOME.make();
            x.restore(0);
            String saved = Seen.of(x);
            for (int i = 0; i < 3; i++) {
                x.hop(1, -1);
                x.turn(0, 1);
                x.flies(0, 0, 9);
                s.due("restore(0)", x.restore(0), 0);
                s.same("restored once more", Seen.of(x), saved);
            }
        });
        s.tell(27, "slot: 0 or 1", () -> {
            LilyWheels full = Start.FULL.make();
            s.due("restore(0)", full.restore(0), 0);
            s.due("restore(1)", full.restore(1), 1);
            s.due("restore(0) once more", full.restore(0), 0);
        });
        s.tell(27, "Returns the moves so far then.", () -> {
            LilyWheels x = s.pond("Pw3430f001");
            x.hop(0, 1);
            x.save(0);
            x.hop(0, 1);
            x.hop(0, 1);
            x.save(1);
            x.hop(0, 1);
            s.due("restore(0)", x.restore(0), 1);
            s.due("about(3)", x.about(3), 1);
            s.due("restore(1)", x.restore(1), 3);
            s.due("about(3)", x.about(3), 3);
        });
        s.tell(27, "Throws IndexOutOfBoundsException if there is no such save slot", () -> {
            for (int slot : Sentences.beyond(0, 1)) {
                s.refusedAnywhere("restore(" + slot + ")", NO_SUCH, x -> x.restore(slot));
            }
        });
    }

    private void restoreForgets() {
        s.tell(27, "and forgets all remembered states.", () -> {
            LilyWheels x = Start.FULL.make();
            x.restore(1);
            s.refused(x, "undo()", STATE, LilyWheels::undo);
            x.turn(0, 1);
            x.turn(0, 1);
            s.due("undo() of what is done then", x.undo(), 1);
            s.due("undo()", x.undo(), 0);
            s.refused(x, "undo()", STATE, LilyWheels::undo);
            for (int i = 0; i < 15; i++) {
                x.turn(0, 1);
            }
            s.due("undo() behind more than can be remembered", x.undo(), 13);
        });
        s.tell(27, "Throws IllegalStateException if nothing has been saved in it since the last load", () -> {
            s.refused(Start.EMPTY, "restore(0)", STATE, x -> x.restore(0));
            s.refused(Start.EMPTY, "restore(1)", STATE, x -> x.restore(1));
            s.refused(Start.SOME, "restore(1)", STATE, x -> x.restore(1));
            for (int slot = 0; slot <= 1; slot++) {
                int its = slot;
                LilyWheels x = Start.FULL.make();
                x.load();
                s.refused(x, "restore(" + slot + ") behind load()", STATE, y -> y.restore(its));
                x.save(slot);
                s.refused(x, "restore() of the other one", STATE, y -> y.restore(1 - its));
                s.due("restore(" + slot + ")", x.restore(slot), x.about(3));
                x.clearText();
                s.refused(x, "load() of no pond", STATE, LilyWheels::load);
                s.due("restore(" + slot + "): a refused load() empties no slot", x.restore(slot), x.about(3));
            }
        });
    }
}
