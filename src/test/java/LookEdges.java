/** Promises 6 to 10: what there is. */
final class LookEdges {
    private static final int NONE = Sentences.NONE;
    private static final Class<IndexOutOfBoundsException> NO_SUCH = Sentences.NO_SUCH;
    private static final Class<IllegalArgumentException> BAD = Sentences.BAD;

    private final Sentences s;

    private LookEdges(Sentences s) {
        this.s = s;
    }

    static void tell(Sentences s) {
        LookEdges it = new LookEdges(s);
        it.about();
        it.aboutFlies();
        it.aboutLeapers();
        it.wheelOf();
        it.placeOf();
        it.frogOf();
        it.lineOf();
    }

    private void harmlessAnywhere(String call, int last, java.util.function.IntFunction<Whole.Call> made) {
        for (Start start : Start.values()) {
            for (int what = 0; what <= last && start != Start.EMPTY; what++) {
                s.harmless(start, call + " " + what, made.apply(what));
            }
        }
    }

    private void about() {
        s.tell(6, "Returns a number.", () -> {
            for (int what = 0; what <= 10; what++) {
                int its = what;
                s.harmless(Start.EMPTY, "about(" + what + ")", x -> x.about(its));
            }
            harmlessAnywhere("about", 10, what -> x -> x.about(what));
        });
        s.tell(6, "Returns that number.", () -> {
            int[] want = {2, 2, 2, 1, 8, 5, 0, 13, 0, 1, 0};
            LilyWheels x = Start.SOME.make();
            for (int what = 0; what <= 10; what++) {
                s.due("about(" + what + ")", x.about(what), want[what]);
            }
        });
        s.tell(6, "what: 0: the wheels; 1: the lines; 2: the frogs; 3: the moves so far;", () -> {
            LilyWheels x = new LilyWheels();
            for (int what = 0; what <= 3; what++) {
                s.due("nothing there yet", x.about(what), 0);
            }
            LilyWheels full = Start.FULL.make();
            int[] want = {3, 8, 5, 4};
            for (int what = 0; what <= 3; what++) {
                s.due("all full, about(" + what + ")", full.about(what), want[what]);
            }
        });
        s.tell(6, "8: the frog that made the latest move, NONE ahead of the first one;", () -> {
            LilyWheels x = s.pond("Pw5430w3430l0110f001f021");
            s.due("ahead of the first one", x.about(8), NONE);
            s.due("leap(1, 0), which cannot be made", x.leap(1, 0), 1);
            s.due("still", x.about(8), NONE);
            x.hop(1, 1);
            s.due("behind a hop of frog 1", x.about(8), 1);
            x.hop(0, 1);
            s.due("behind a hop of frog 0", x.about(8), 0);
            s.due("leap(1, 0), which cannot be made", x.leap(1, 0), 1);
            s.due("still", x.about(8), 0);
            x.leap(0, 0);
            x.hop(1, -1);
            x.turn(0, 1);
            x.frog(0, 0, 1);
            s.due("a turn and a frog are no moves", x.about(8), 1);
            x.undo();
            x.undo();
            x.undo();
            s.due("behind undo()", x.about(8), 0);
            x.undo();
            x.undo();
            x.undo();
            x.undo();
            s.due("behind all undo()", x.about(8), NONE);
        });
        s.tell(6, "9: setting 0;", () -> {
            LilyWheels x = new LilyWheels();
            s.due("at first", x.about(9), 0);
            x.set(1);
            s.due("behind set(1)", x.about(9), 1);
            x.set(0);
            s.due("behind set(0)", x.about(9), 0);
        });
        s.tell(6, "Throws IllegalArgumentException if what is not 0 to 10", () -> {
            for (int what : Sentences.beyond(0, 10)) {
                s.refusedAnywhere("about(" + what + ")", BAD, x -> x.about(what));
            }
        });
    }

    private void aboutFlies() {
        s.tell(6, "4: the flies on all pads;", () -> {
            for (int w = 0; w < 3; w++) {
                for (int p = 0; p < 5; p++) {
                    LilyWheels x = s.pond("Pw5430w5430w5430");
                    s.due("none", x.about(4), 0);
                    x.flies(w, p, 7);
                    s.due("those at " + w + ", " + p, x.about(4), 7);
                    s.due("those of the wheel", x.wheelOf(w, 5), 7);
                    s.due("those of the next one", x.wheelOf((w + 1) % 3, 5), 0);
                }
            }
            LilyWheels full = s.pond("Pw5430w5430w5430");
            for (int i = 0; i < 15; i++) {
                full.flies(i / 5, i % 5, 9);
            }
            s.due("all full", full.about(4), 135);
        });
        s.tell(6, "5: the flies eaten so far;", () -> {
            LilyWheels x = s.pond("Pw3430f001y029y019");
            s.due("none", x.about(5), 0);
            x.hop(0, -1);
            s.due("9 from the pad", x.about(5), 9);
            x.hop(0, -1);
            s.due("9 from the next one; the fly that came to it went off", x.about(5), 18);
            x.frog(0, 0, 1);
            x.hop(0, 1);
            s.due("those that each frog ate", x.frogOf(0, 4) + x.frogOf(1, 4), x.about(5));
        });
        s.tell(6, "6: the flies gone off so far;", () -> {
            LilyWheels x = s.pond("Pw3430w3430f001");
            x.flies(1, 1, 9);
            s.due("none", x.about(6), 0);
            x.flies(1, 1, 9);
            s.due("9 that were brought", x.about(6), 9);
            x.hop(0, 1);
            s.due("and one that came", x.about(6), 10);
            x.turn(0, 1);
            s.due("none by a turn", x.about(6), 10);
        });
        s.tell(6, "7: the flies that came or were brought so far;", () -> {
            LilyWheels x = s.pond("Pw3430w3430f001f111");
            s.due("none", x.about(7), 0);
            x.flies(0, 2, 9);
            s.due("brought", x.about(7), 9);
            x.flies(0, 2, 9);
            s.due("those brought that went off, too", x.about(7), 18);
            x.hop(0, 1);
            s.due("one that frog 1 ate at once", x.about(7), 19);
            x.hop(0, -1);
            s.due("one that went off", x.about(7), 20);
            s.due("gone off", x.about(6), 10);
            x.hop(1, 1);
            s.due("one that stays", x.about(7), 21);
        });
    }

    private void aboutLeapers() {
        s.tell(6, "10: the frogs that can leap along some line now, how many", () -> {
            LilyWheels x = s.pond("Pw5430w5430l0010f001f011");
            s.due("frog 0 alone is at a line", x.about(10), 1);
            x.line(0, 0, 1, 1);
            s.due("a second line of frog 0", x.about(10), 1);
            x.line(1, 0, 0, 1);
            s.due("frog 1 is at a line's other end", x.about(10), 2);
            x.frog(1, 0, 1);
            s.due("frog 2 sits at the end of both; frog 0 has another line", x.about(10), 1);
            x.frog(1, 1, 1);
            s.due("no free end is left", x.about(10), 0);
            x.turn(1, 2);
            s.due("frogs 2 and 3 have gone round", x.about(10), 2);
            x.set(1);
            s.due("nobody has moved yet", x.about(10), 2);
            x.hop(0, -1);
            x.hop(1, -1);
            s.due("the latest move was of the only frog at a line", x.about(10), 0);
            x.set(0);
            s.due("setting 0 is 0", x.about(10), 1);
            LilyWheels five = s.pond("Pw5430w5430l0010l0111l0212l0313l1404f001f011f021f031f041");
            s.due("all five", five.about(10), 5);
            s.due("none without lines", s.pond("Pw5430f001").about(10), 0);
            LilyWheels undone = s.pond("Pw5430w5430l0111f001");
            undone.line(0, 0, 1, 0);
            s.due("with a line", undone.about(10), 1);
            undone.undo();
            s.due("without the line that is taken back", undone.about(10), 0);
            Start.write(undone, "Pw5430w5430l0010l0011f001");
            undone.load();
            s.due("with two lines", undone.about(10), 1);
            Start.write(undone, "Pw5430w5430f001");
            undone.load();
            s.due("without those of what was loaded before", undone.about(10), 0);
            s.due("none without frogs", s.pond("Pw5430w5430l0010").about(10), 0);
        });
    }

    private void wheelOf() {
        s.tell(7, "Returns a number of a wheel.", () ->
            harmlessAnywhere("wheelOf", 7, what -> x -> x.wheelOf(1, what)));
        s.tell(7, "w: wheel", () -> {
            LilyWheels x = s.pond("Pw3430w4430w5430");
            for (int w = 0; w < 3; w++) {
                s.due("places of the wheel " + w, x.wheelOf(w, 0), 3 + w);
            }
        });
        s.tell(7, "Returns that number.", () -> {
            int[][] want = {{5, 2, 8, 2, 0, 8, 5, 1}, {3, -1, 20, 0, 10, 0, 3, 0}};
            LilyWheels x = Start.SOME.make();
            for (int w = 0; w < 2; w++) {
                for (int what = 0; what <= 7; what++) {
                    s.due("wheelOf(" + w + ", " + what + ")", x.wheelOf(w, what), want[w][what]);
                }
            }
        });
        s.tell(7, "what: 0: its places; 1: its notch; 2: its strength; 3: its turn;", () -> {
            int[][] wheels = {{3, -4, 0}, {4, 0, 15}, {5, 4, 30}};
            LilyWheels x = new LilyWheels();
            for (int w = 0; w < 3; w++) {
                x.wheel(wheels[w][0], wheels[w][1], wheels[w][2]);
                x.turn(w, -1);
                for (int what = 0; what <= 2; what++) {
                    s.due("wheelOf(" + w + ", " + what + ")", x.wheelOf(w, what), wheels[w][what]);
                }
                s.due("the turn of " + w, x.wheelOf(w, 3), w + 2);
            }
        });
        s.tell(7, "4: the weights of the frogs on it, together;", () -> {
            LilyWheels x = s.pond("Pw5430w3430f001f019f029f039f049");
            s.due("five frogs", x.wheelOf(0, 4), 37);
            s.due("none", x.wheelOf(1, 4), 0);
            x.line(0, 4, 1, 2);
            x.leap(4, 0);
            s.due("four are left", x.wheelOf(0, 4), 28);
            s.due("one has come", x.wheelOf(1, 4), 9);
        });
        s.tell(7, "5: the flies on its pads;", () -> {
            for (int p = 0; p < 5; p++) {
                LilyWheels x = s.pond("Pw3430w4430w5430t22");
                x.flies(2, p, p + 1);
                s.due("those at " + p, x.wheelOf(2, 5), p + 1);
                s.due("none on the others", x.wheelOf(0, 5) + x.wheelOf(1, 5), 0);
            }
            LilyWheels full = s.pond("Pw5430y009y019y029y039y049");
            s.due("all full", full.wheelOf(0, 5), 45);
        });
        s.tell(7, "6: after how many turns by its notch it is as it was, 1 or more;", () -> {
            int[][] want = {{3, 3, 1, 3, 1, 3, 3, 1, 3}, {1, 4, 2, 4, 1, 4, 2, 4, 1}, {5, 5, 5, 5, 1, 5, 5, 5, 5}};
            for (int n = 3; n <= 5; n++) {
                for (int notch = -4; notch <= 4; notch++) {
                    // The row of 3 places: -4 to 4, of which -3, 0 and 3 are all the way round.
                    int its = n == 3 ? (notch % 3 == 0 ? 1 : 3) : want[n - 3][notch + 4];
                    LilyWheels x = new LilyWheels();
                    x.wheel(n, notch, 30);
                    s.due("n " + n + ", notch " + notch, x.wheelOf(0, 6), its);
                    x.turn(0, 1);
                    s.due("n " + n + ", notch " + notch + ", turned", x.wheelOf(0, 6), its);
                }
            }
        });
        s.tell(7, "7: how often it turned by a leap so far (a notch of 0 counts, too)", () -> {
            for (int w = 0; w < 3; w++) {
                LilyWheels x = s.pond("Pw3430w3430w3430");
                x.line(w, 0, (w + 1) % 3, 0);
                x.frog(w, 0, 1);
                s.due("at first", x.wheelOf(w, 7), 0);
                x.leap(0, 0);
                s.due("a notch of 0 counts", x.wheelOf(w, 7), 1);
                s.due("the wheel to which it came", x.wheelOf((w + 1) % 3, 7), 0);
                x.leap(0, 0);
                s.due("when that is left", x.wheelOf((w + 1) % 3, 7), 1);
                x.hop(0, 1);
                x.turn(w, 1);
                s.due("a hop and a turn by hand do not count", x.wheelOf(w, 7), 1);
                s.due("nor does a leap that cannot be made", x.leap(0, 0), 1);
                s.due("still", x.wheelOf(w, 7), 1);
            }
            LilyWheels y = s.pond("Pw3500w3430l0010f001f011");
            y.leap(0, 0);
            s.due("too heavy", y.wheelOf(0, 7), 0);
        });
        s.tell(7, "Throws IndexOutOfBoundsException if there is no such wheel", () -> {
            for (int w : Sentences.beyond(0, 2)) {
                s.refusedAnywhere("wheelOf(" + w + ", 0)", NO_SUCH, x -> x.wheelOf(w, 0));
                s.refusedAnywhere("wheelOf(" + w + ", 8): the wheel comes first", NO_SUCH, x -> x.wheelOf(w, 8));
                s.refusedAnywhere("wheelOf(" + w + ", -1): the wheel comes first", NO_SUCH, x -> x.wheelOf(w, -1));
            }
            s.refused(Start.EMPTY, "wheelOf(0, 0)", NO_SUCH, x -> x.wheelOf(0, 0));
            s.refused(Start.SOME, "wheelOf(2, 7)", NO_SUCH, x -> x.wheelOf(2, 7));
            s.due("the last one", Start.SOME.make().wheelOf(1, 0), 3);
            s.due("the last one", Start.FULL.make().wheelOf(2, 0), 3);
        });
        s.tell(7, "Throws IllegalArgumentException if what is not 0 to 7", () -> {
            for (int what : Sentences.beyond(0, 7)) {
                s.refused(Start.SOME, "wheelOf(0, " + what + ")", BAD, x -> x.wheelOf(0, what));
                s.refused(Start.FULL, "wheelOf(2, " + what + ")", BAD, x -> x.wheelOf(2, what));
            }
        });
    }

    private void placeOf() {
        s.tell(8, "Returns a number of a place.", () ->
            harmlessAnywhere("placeOf", 3, what -> x -> x.placeOf(1, 2, what)));
        s.tell(8, "w: wheel", () -> {
            LilyWheels x = s.pond("Pw3430w3430w3430y001y102y203");
            for (int w = 0; w < 3; w++) {
                s.due("flies at the place 0 of " + w, x.placeOf(w, 0, 1), w + 1);
            }
        });
        s.tell(8, "p: place", () -> {
            LilyWheels x = s.pond("Pw5430y001y012y023y034y045");
            for (int p = 0; p < 5; p++) {
                s.due("flies at the place " + p, x.placeOf(0, p, 1), p + 1);
            }
        });
        s.tell(8, "what: 0: the pad that lies there; 1: the flies on it; 2: the frog that sits on it, or NONE;", () -> {
            for (int r = 0; r < 5; r++) {
                LilyWheels x = s.pond("Pw5430w5430y003y046f001f041f111");
                x.turn(0, r);
                for (int p = 0; p < 5; p++) {
                    int pad = (p + 5 - r) % 5;
                    s.due("r " + r + ", the pad at " + p, x.placeOf(0, p, 0), pad);
                    s.due("r " + r + ", flies at " + p, x.placeOf(0, p, 1), pad == 0 ? 3 : pad == 4 ? 6 : 0);
                    s.due("r " + r + ", the frog at " + p, x.placeOf(0, p, 2), pad == 0 ? 0 : pad == 4 ? 1 : NONE);
                }
            }
            LilyWheels five = s.pond("Pw5430f041f031f021f011f001");
            for (int p = 0; p < 5; p++) {
                s.due("who sits at " + p, five.placeOf(0, p, 2), 4 - p);
            }
        });
        s.tell(8, "3: the lines that end there, how many", () -> {
            LilyWheels x = s.pond("Pw5430w5430");
            for (int l = 0; l <= 8; l++) {
                s.due("at the place 4", x.placeOf(0, 4, 3), l);
                s.due("at their other end", x.placeOf(1, 0, 3), l);
                s.due("at the pad of the same number", x.placeOf(0, 3, 3), 0);
                if (l < 8) {
                    x.line(l % 2, l % 2 == 0 ? 4 : 0, 1 - l % 2, l % 2 == 0 ? 0 : 4);
                    x.turn(0, 1);
                }
            }
        });
        s.tell(8, "Returns that number.", () -> {
            int[][] want = {{3, 0, NONE, 1}, {4, 8, NONE, 0}, {0, 0, NONE, 0}, {1, 0, NONE, 1}, {2, 0, NONE, 0}};
            LilyWheels x = Start.SOME.make();
            for (int p = 0; p < 5; p++) {
                for (int what = 0; what <= 3; what++) {
                    s.due("placeOf(0, " + p + ", " + what + ")", x.placeOf(0, p, what), want[p][what]);
                }
            }
            s.due("placeOf(1, 0, 2)", x.placeOf(1, 0, 2), 1);
            s.due("placeOf(1, 1, 2)", x.placeOf(1, 1, 2), 0);
        });
        s.tell(8, "Throws IndexOutOfBoundsException if there is no such wheel or place", () -> {
            for (int w : Sentences.beyond(0, 2)) {
                s.refusedAnywhere("placeOf(" + w + ", 0, 0)", NO_SUCH, x -> x.placeOf(w, 0, 0));
                s.refusedAnywhere("placeOf(" + w + ", 0, 4): the wheel comes first", NO_SUCH, x -> x.placeOf(w, 0, 4));
            }
            s.refused(Start.SOME, "placeOf(2, 0, 0)", NO_SUCH, x -> x.placeOf(2, 0, 0));
            for (int w = 0; w < 3; w++) {
                int its = w;
                for (int p : Sentences.beyond(0, 4 - w)) {
                    s.refused(Start.FULL, "placeOf(" + w + ", " + p + ", 0)", NO_SUCH, x -> x.placeOf(its, p, 0));
                    s.refused(Start.FULL, "placeOf(" + w + ", " + p + ", -1): the place comes first", NO_SUCH,
                        x -> x.placeOf(its, p, -1));
                }
                s.due("the last place", Start.FULL.make().placeOf(w, 4 - w, 1) >= 0);
            }
        });
        s.tell(8, "Throws IllegalArgumentException if what is not 0 to 3", () -> {
            for (int what : Sentences.beyond(0, 3)) {
                s.refused(Start.SOME, "placeOf(1, 2, " + what + ")", BAD, x -> x.placeOf(1, 2, what));
                s.refused(Start.FULL, "placeOf(0, 4, " + what + ")", BAD, x -> x.placeOf(0, 4, what));
            }
        });
    }

    private void frogOf() {
        s.tell(9, "Returns a number of a frog.", () ->
            harmlessAnywhere("frogOf", 5, what -> x -> x.frogOf(1, what)));
        s.tell(9, "f: frog", () -> {
            LilyWheels x = s.pond("Pw5430f001f012f023f034f049");
            int[] weights = {1, 2, 3, 4, 9};
            for (int f = 0; f < 5; f++) {
                s.due("the weight of frog " + f, x.frogOf(f, 0), weights[f]);
            }
        });
        s.tell(9, "what: 0: its weight; 1: its wheel; 2: its pad; 3: its place; 4: the flies that it ate so far;"
            + " 5: its moves so far", () -> {
                LilyWheels x = s.pond("Pw3430w4430w5430l0024f209f008f101f111f125y223");
                x.turn(2, 2);
                // It comes to the pad 2; m = 1: frog 3 eats the fly at the place 1 of the wheel 1.
                s.due("leap(1, 0)", x.leap(1, 0), 0);
                int[][] want = {{9, 2, 0, 2, 0, 0}, {8, 2, 2, 4, 3, 1}, {1, 1, 0, 0, 0, 0}, {1, 1, 1, 1, 1, 0},
                    {5, 1, 2, 2, 0, 0}};
                for (int f = 0; f < 5; f++) {
                    for (int what = 0; what <= 5; what++) {
                        s.due("frogOf(" + f + ", " + what + ")", x.frogOf(f, what), want[f][what]);
                    }
                }
            });
        s.tell(9, "Returns that number.", () -> {
            int[][] want = {{3, 1, 1, 1, 5, 1}, {7, 1, 0, 0, 0, 0}};
            LilyWheels x = Start.SOME.make();
            for (int f = 0; f < 2; f++) {
                for (int what = 0; what <= 5; what++) {
                    s.due("frogOf(" + f + ", " + what + ")", x.frogOf(f, what), want[f][what]);
                }
            }
            // Each of five frogs has numbers of its own.
            LilyWheels y = s.pond("Pw5430w5430f001f021f041f101f121y105");
            // m = 1: it eats the fly at the place 1 of the wheel 1.
            y.hop(4, -1);
            y.hop(4, -1);
            s.due("hop(4, -1) to where frog 3 sits", y.frogOf(4, 3), 1);
            y.hop(3, -1);
            y.hop(4, -1);
            s.due("frog 4 ate", y.frogOf(4, 4), 6);
            s.due("frog 4 moved", y.frogOf(4, 5), 2);
            s.due("frog 4 sits on", 10 * y.frogOf(4, 1) + y.frogOf(4, 2), 10);
        });
        s.tell(9, "Throws IndexOutOfBoundsException if there is no such frog", () -> {
            for (int f : Sentences.beyond(0, 4)) {
                s.refusedAnywhere("frogOf(" + f + ", 0)", NO_SUCH, x -> x.frogOf(f, 0));
                s.refusedAnywhere("frogOf(" + f + ", 6): the frog comes first", NO_SUCH, x -> x.frogOf(f, 6));
                s.refusedAnywhere("frogOf(" + f + ", -1): the frog comes first", NO_SUCH, x -> x.frogOf(f, -1));
            }
            s.refused(Start.EMPTY, "frogOf(0, 0)", NO_SUCH, x -> x.frogOf(0, 0));
            s.refused(Start.SOME, "frogOf(2, 0)", NO_SUCH, x -> x.frogOf(2, 0));
            s.due("the last one", Start.SOME.make().frogOf(1, 0), 7);
            s.due("the last one", Start.FULL.make().frogOf(4, 0), 5);
        });
        s.tell(9, "Throws IllegalArgumentException if what is not 0 to 5", () -> {
            for (int what : Sentences.beyond(0, 5)) {
                s.refused(Start.SOME, "frogOf(1, " + what + ")", BAD, x -> x.frogOf(1, what));
                s.refused(Start.FULL, "frogOf(4, " + what + ")", BAD, x -> x.frogOf(4, what));
            }
        });
    }

    private void lineOf() {
        s.tell(10, "Returns a number of a line.", () ->
            harmlessAnywhere("lineOf", 3, what -> x -> x.lineOf(1, what)));
        s.tell(10, "l: line", () -> {
            LilyWheels x = Start.FULL.make();
            int[] first = {0, 3, 0, 0, 1, 2, 0, 1};
            for (int l = 0; l < 8; l++) {
                s.due("the first place of line " + l, x.lineOf(l, 1), first[l]);
            }
        });
        s.tell(10, "what: 0 and 1: the wheel and the place at its first end; 2 and 3: those at the other one", () -> {
            LilyWheels x = s.pond("Pw5430w5430w5430l0024l2410l1400t01t12t23");
            int[][] want = {{0, 0, 2, 4}, {2, 4, 1, 0}, {1, 4, 0, 0}};
            for (int l = 0; l < 3; l++) {
                for (int what = 0; what <= 3; what++) {
                    s.due("lineOf(" + l + ", " + what + ")", x.lineOf(l, what), want[l][what]);
                }
            }
        });
        s.tell(10, "Returns that number.", () -> {
            LilyWheels x = Start.FULL.make();
            int[] want = {1, 1, 0, 0};
            for (int what = 0; what <= 3; what++) {
                s.due("lineOf(7, " + what + ")", x.lineOf(7, what), want[what]);
            }
        });
        s.tell(10, "Throws IndexOutOfBoundsException if there is no such line", () -> {
            for (int l : Sentences.beyond(0, 7)) {
                s.refusedAnywhere("lineOf(" + l + ", 0)", NO_SUCH, x -> x.lineOf(l, 0));
                s.refusedAnywhere("lineOf(" + l + ", 4): the line comes first", NO_SUCH, x -> x.lineOf(l, 4));
                s.refusedAnywhere("lineOf(" + l + ", -1): the line comes first", NO_SUCH, x -> x.lineOf(l, -1));
            }
            s.refused(Start.EMPTY, "lineOf(0, 0)", NO_SUCH, x -> x.lineOf(0, 0));
            s.refused(Start.SOME, "lineOf(2, 0)", NO_SUCH, x -> x.lineOf(2, 0));
            s.due("the last one", Start.SOME.make().lineOf(1, 1), 2);
        });
        s.tell(10, "Throws IllegalArgumentException if what is not 0 to 3", () -> {
            for (int what : Sentences.beyond(0, 3)) {
                s.refused(Start.SOME, "lineOf(0, " + what + ")", BAD, x -> x.lineOf(0, what));
                s.refused(Start.FULL, "lineOf(7, " + what + ")", BAD, x -> x.lineOf(7, what));
            }
        });
    }
}
