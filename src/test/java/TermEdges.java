import java.util.Random;

/** The sentences ahead of the promises: wheels, lines, frogs and moves. */
final class TermEdges {
    private static final int NONE = Sentences.NONE;

    private final Sentences s;

    private TermEdges(Sentences s) {
        this.s = s;
    }

    static void tell(Sentences s) {
        TermEdges it = new TermEdges(s);
        it.introduction();
        it.wheels();
        it.lines();
        it.frogs();
        it.leaps();
        it.strengths();
        it.hops();
        it.fliesThatCome();
        it.constants();
    }

    private void introduction() {
        s.tell(Sentences.INTRODUCTION, "Frogs on wheels of lily pads that turn a notch when they are left: wheels with pads"
            + " that go round with them, lines along which frogs leap from place to place, frogs that hop to the next"
            + " place, weights that keep a wheel from turning, flies that come and are eaten, reasons why a frog cannot go.",
            () -> {
                LilyWheels x = s.pond("Pw5530w3430l0010f001f021y102");
                s.due("leap(0, 0)", x.leap(0, 0), 0);
                s.due("the pads went round", x.placeOf(0, 1, 0), 0);
                s.due("the frog on them, too", x.frogOf(1, 3), 3);
                s.due("flies eaten", x.frogOf(0, 4), 2);
                s.due("hop(1, 1)", x.hop(1, 1), 0);
                s.due("its place", x.frogOf(1, 3), 4);
                s.due("why(1, 0)", x.why(1, 0), 1);
                LilyWheels y = s.pond("Pw5500w3430l0010f001f021");
                s.due("leap(0, 0)", y.leap(0, 0), 0);
                s.due("a weight keeps the wheel from turning", y.wheelOf(0, 3), 0);
            });
        s.tell(Sentences.INTRODUCTION, "An object is used for at most 512 calls after it has been made;", () -> {
            LilyWheels x = new LilyWheels();
            x.wheel(3, 0, 0);
            x.frog(0, 0, 1);
            for (int m = 1; m <= 508; m++) {
                s.due("the hop " + m, x.hop(0, 1), 0);
            }
            // Each fly comes to the place m modulo 3, where the frog has just come.
            s.due("the 511th call, about(5)", x.about(5), 508);
            s.due("the 512th call, undo()", x.undo(), 13);
        });
        s.tell(Sentences.TERMS, "It tells who sits where, the fewest moves by which a frog comes to a place, told in two"
            + " ways that must agree, the most flies that it could eat, where it could be, when a wheel is as it was,"
            + " accounts of flies that add up.", this::accounts);
        s.tell(Sentences.TERMS, "Changes can be undone.", () -> {
            Whole.Call[] changes = {x -> x.wheel(4, 1, 1), x -> x.line(0, 1, 1, 1), x -> x.frog(0, 1, 1),
                x -> x.flies(0, 1, 1), x -> x.leap(1, 2), x -> x.hop(1, -1), x -> x.turn(0, 1), x -> x.set(0)};
            for (int i = 0; i < changes.length; i++) {
                LilyWheels x = Start.SOME.make();
                x.line(1, 0, 0, 0);
                String before = Seen.of(x);
                changes[i].on(x);
                s.due("the action " + i + " changes something", !Seen.of(x).equals(before));
                x.undo();
                s.same("the action " + i + " is taken back", Seen.of(x), before);
            }
        });
    }

    private void accounts() {
        Random random = new Random(7);
        for (int run = 0; run < 20; run++) {
            LilyWheels x = run % 2 == 0 ? Start.SOME.make() : Start.FULL.make();
            x.set(run % 3 % 2);
            for (int i = 0; i < 15; i++) {
                x.hop(random.nextInt(2), 2 * random.nextInt(2) - 1);
                x.leap(random.nextInt(2), random.nextInt(2));
            }
            s.due("the flies add up", x.about(7), x.about(4) + x.about(5) + x.about(6));
            int ate = 0;
            int moves = 0;
            for (int f = 0; f < x.about(2); f++) {
                ate += x.frogOf(f, 4);
                moves += x.frogOf(f, 5);
                s.due("who sits there", x.placeOf(x.frogOf(f, 1), x.frogOf(f, 3), 2), f);
            }
            s.due("eaten by the frogs", ate, x.about(5));
            s.due("moves by the frogs", moves, x.about(3));
            int onPads = 0;
            for (int w = 0; w < x.about(0); w++) {
                onPads += x.wheelOf(w, 5);
            }
            s.due("flies on the wheels", onPads, x.about(4));
            for (int w = 0; w < x.about(0); w++) {
                for (int p = 0; p < x.wheelOf(w, 0); p++) {
                    int fewest = x.fewest(0, w, p, 0);
                    s.due("the other way", x.fewest(0, w, p, 1), fewest);
                    s.due("where it could be", x.couldBe(0, w) >> p & 1, fewest == NONE ? 0 : 1);
                }
            }
        }
    }

    private void wheels() {
        s.tell(Sentences.TERMS, "All divisions are rounded down; a modulo n is never negative (-1 modulo 5 is 4).", () -> {
            LilyWheels x = s.pond("Pw5030w4030w3030");
            s.due("turn(0, -1)", x.turn(0, -1), 4);
            s.due("the pad at the place 0", x.placeOf(0, 0, 0), 1);
            s.due("the pad at the place 4", x.placeOf(0, 4, 0), 0);
            s.due("turn(1, -4)", x.turn(1, -4), 0);
            s.due("turn(2, -4)", x.turn(2, -4), 2);
            s.due("turn(2, -3)", x.turn(2, -3), 2);
        });
        s.tell(Sentences.TERMS, "There are at most 3 wheels, numbered from 0.", () -> {
            LilyWheels x = new LilyWheels();
            for (int w = 0; w < 3; w++) {
                s.due("wheel()", x.wheel(3, 0, 0), w);
                s.due("the wheels", x.about(0), w + 1);
            }
            s.refused(x, "a fourth wheel", Sentences.STATE, y -> y.wheel(3, 0, 0));
        });
        s.tell(Sentences.TERMS, "A wheel has n places, 3 to 5, numbered from 0, which stay where they are, and as many pads,"
            + " numbered from 0, which go round with it; a notch, -4 to 4; a strength, 0 to 30; and a turn r, at first 0:"
            + " at the place p lies the pad (p - r) modulo n.", () -> {
                for (int n = 3; n <= 5; n++) {
                    int its = n;
                    LilyWheels x = new LilyWheels();
                    x.wheel(n, 0, 0);
                    s.due("its turn at first", x.wheelOf(0, 3), 0);
                    s.refused(x, "the place -1 of " + n, Sentences.NO_SUCH, y -> y.placeOf(0, -1, 0));
                    s.refused(x, "the place n of " + n, Sentences.NO_SUCH, y -> y.placeOf(0, its, 0));
                    for (int r = 0; r < n; r++) {
                        for (int p = 0; p < n; p++) {
                            s.due("n " + n + ", r " + r + ", the pad at " + p, x.placeOf(0, p, 0), Math.floorMod(p - r, n));
                        }
                        x.turn(0, 1);
                    }
                }
            });
        s.tell(Sentences.TERMS, "To turn a wheel by k means that r becomes (r + k) modulo n.", () -> {
            for (int n = 3; n <= 5; n++) {
                LilyWheels x = new LilyWheels();
                x.wheel(n, 0, 0);
                for (int r = 0; r < n; r++) {
                    for (int k = -4; k <= 4; k++) {
                        s.due("n " + n + ", from " + r + " by " + k, x.turn(0, k), Math.floorMod(r + k, n));
                        x.undo();
                    }
                    x.turn(0, 1);
                }
            }
        });
        s.tell(Sentences.TERMS, "A pad has 0 to 9 flies, at first 0.", () -> {
            LilyWheels x = s.pond("Pw5030w4030w3030");
            for (int w = 0; w < 3; w++) {
                for (int p = 0; p < 5 - w; p++) {
                    s.due("at first", x.placeOf(w, p, 1), 0);
                    s.due("all that it can hold", x.flies(w, p, 9), 9);
                    s.due("one more", x.flies(w, p, 1), 9);
                    s.due("on the pad", x.placeOf(w, p, 1), 9);
                }
            }
            s.due("gone off", x.about(6), 12);
        });
    }

    private void lines() {
        s.tell(Sentences.TERMS, "There are at most 8 lines, numbered from 0, each between a place of a wheel and a place of"
            + " another wheel.", () -> {
                LilyWheels x = s.pond("Pw3030w4030w5030");
                int[][] ends = {{0, 0, 1, 3}, {1, 3, 0, 2}, {0, 1, 2, 4}, {2, 4, 0, 0}, {1, 0, 2, 0}, {2, 3, 1, 1},
                    {0, 2, 1, 0}, {2, 0, 1, 2}};
                for (int l = 0; l < 8; l++) {
                    s.due("line()", x.line(ends[l][0], ends[l][1], ends[l][2], ends[l][3]), l);
                    s.due("the lines", x.about(1), l + 1);
                }
                for (int l = 0; l < 8; l++) {
                    for (int what = 0; what < 4; what++) {
                        s.due("lineOf(" + l + ", " + what + ")", x.lineOf(l, what), ends[l][what]);
                    }
                }
                s.refused(x, "a ninth line", Sentences.STATE, y -> y.line(0, 0, 1, 0));
                for (int w = 0; w < 3; w++) {
                    int its = w;
                    LilyWheels z = s.pond("Pw3030w4030w5030");
                    s.refused(z, "within the wheel " + w, Sentences.BAD, y -> y.line(its, 0, its, 1));
                    s.refused(z, "from a place to itself", Sentences.BAD, y -> y.line(its, 0, its, 0));
                }
            });
    }

    private void frogs() {
        s.tell(Sentences.TERMS, "There are at most 5 frogs, numbered from 0, each with a weight of 1 to 9.", () -> {
            LilyWheels x = s.pond("Pw5030w3030");
            int[] weights = {1, 9, 5, 2, 8};
            for (int f = 0; f < 5; f++) {
                s.due("frog()", x.frog(0, f, weights[f]), f);
                s.due("the frogs", x.about(2), f + 1);
            }
            for (int f = 0; f < 5; f++) {
                s.due("the weight of frog " + f, x.frogOf(f, 0), weights[f]);
            }
            s.refused(x, "a sixth frog", Sentences.STATE, y -> y.frog(1, 0, 1));
        });
        s.tell(Sentences.TERMS, "A frog sits on a pad, alone, and goes round with it.", () -> {
            for (int n = 3; n <= 5; n++) {
                LilyWheels x = new LilyWheels();
                x.wheel(n, 0, 0);
                x.frog(0, 1, 1);
                for (int r = 0; r <= n; r++) {
                    int here = (1 + r) % n;
                    s.due("its place", x.frogOf(0, 3), here);
                    s.due("its pad", x.frogOf(0, 2), 1);
                    for (int p = 0; p < n; p++) {
                        s.due("who sits at " + p, x.placeOf(0, p, 2), p == here ? 0 : NONE);
                    }
                    s.refused(x, "another frog there", Sentences.STATE, y -> y.frog(0, here, 1));
                    x.turn(0, 1);
                }
            }
        });
    }

    private void leaps() {
        s.tell(Sentences.TERMS, "A frog can leap along a line, to the place at its other end, if none of these is so",
            () -> {
                LilyWheels x = s.pond("Pw4030w4030l0013f001");
                s.due("leap(0, 0) from its first end", x.leap(0, 0), 0);
                s.due("its place", 10 * x.frogOf(0, 1) + x.frogOf(0, 3), 13);
                s.due("leap(0, 0) from its other end", x.leap(0, 0), 0);
                s.due("its place", 10 * x.frogOf(0, 1) + x.frogOf(0, 3), 0);
            });
        s.tell(Sentences.TERMS, "1: neither end of the line is the place where the frog is;", () -> {
            LilyWheels x = s.pond("Pw3430w3430l0112f001");
            s.due("at another place", x.leap(0, 0), 1);
            LilyWheels y = s.pond("Pw3430w3430w3430l0112f211f021f111");
            s.due("the place's number on another wheel", y.leap(0, 0), 1);
            s.due("the other end's number on the first end's wheel", y.leap(1, 0), 1);
            s.due("the first end's number on the other end's wheel", y.leap(2, 0), 1);
            LilyWheels z = s.pond("Pw3430w3430l0112f011");
            z.turn(0, 1);
            s.due("the pad has the end's number, but it has gone round", z.leap(0, 0), 1);
            z.turn(0, -1);
            s.due("back again", z.leap(0, 0), 0);
        });
        s.tell(Sentences.TERMS, "2: a frog sits on the pad that lies at the other end;", () -> {
            LilyWheels x = s.pond("Pw3430w3430l0112f011f121");
            s.due("from the first end", x.leap(0, 0), 2);
            s.due("from the other end", x.leap(1, 0), 2);
            x.turn(1, 1);
            s.due("the pad has gone round", x.why(0, 0), 0);
            s.due("and brought frog 1 away from the line", x.why(1, 0), 1);
            s.due("leap(0, 0)", x.leap(0, 0), 0);
            LilyWheels y = s.pond("Pw3430w3430l0112f011f021");
            s.due("a frog at the place's number on the own wheel", y.leap(0, 0), 0);
            LilyWheels z = s.pond("Pw3430w3430l0112f011f101");
            z.turn(1, 2);
            s.due("the pad 0, which a frog has, lies there", z.leap(0, 0), 2);
        });
        s.tell(Sentences.TERMS, "3: setting 0 is 1, and this frog made the latest move of all.", () -> {
            LilyWheels x = s.pond("Pw3430w3430l0010l0111f001f011");
            x.set(1);
            s.due("nobody has moved yet", x.leap(0, 0), 0);
            s.due("frog 0 made the latest move", x.leap(0, 0), 3);
            s.due("hop(0, 1)", x.hop(0, -1), 3);
            s.due("frog 1 did not", x.leap(1, 1), 0);
            s.due("it did now", x.leap(1, 1), 3);
            s.due("frog 0 no more", x.leap(0, 0), 0);
            x.set(0);
            s.due("setting 0 is 0", x.leap(0, 0), 0);
            s.due("and again", x.leap(0, 0), 0);
            x.set(1);
            s.due("a move ahead of set(1) counts", x.leap(0, 0), 3);
        });
        s.tell(Sentences.TERMS, "the first of which is the reason why it cannot", () -> {
            LilyWheels x = s.pond("Pw4430w4430l0010l0111f001f011");
            s.due("leap(0, 0)", x.leap(0, 0), 0);
            s.due("leap(1, 1)", x.leap(1, 1), 0);
            x.set(1);
            x.frog(0, 1, 1);
            s.due("2 and 3", x.leap(1, 1), 2);
            s.due("1 and 3", x.leap(1, 0), 1);
            s.due("1, where frogs sit at both ends", x.leap(0, 1), 1);
            s.due("2 and 3 by a hop", x.hop(1, -1), 2);
            s.due("3 alone by a hop", x.hop(1, 1), 3);
        });
    }

    private void strengths() {
        s.tell(Sentences.TERMS, "When it leaps, it sits on that pad, and eats all flies on it;", () -> {
            for (int flies = 0; flies <= 9; flies++) {
                LilyWheels x = s.pond("Pw3430w5430l0012f001y103");
                x.turn(1, -2);
                if (flies > 0) {
                    x.flies(1, 2, flies);
                }
                s.due("leap(0, 0)", x.leap(0, 0), 0);
                s.due("its wheel", x.frogOf(0, 1), 1);
                s.due("its pad", x.frogOf(0, 2), 4);
                s.due("its place", x.frogOf(0, 3), 2);
                s.due("who sits there", x.placeOf(1, 2, 2), 0);
                s.due("it ate", x.frogOf(0, 4), flies);
                s.due("flies left on it", x.placeOf(1, 2, 1), 0);
                s.due("flies on another pad stay", x.placeOf(1, 3, 1), 3);
            }
        });
        s.tell(Sentences.TERMS, "then the wheel that it left turns by its notch,", () -> {
            for (int n = 3; n <= 5; n++) {
                for (int notch = -4; notch <= 4; notch++) {
                    LilyWheels x = new LilyWheels();
                    x.wheel(4, 1, 30);
                    x.wheel(n, notch, 30);
                    x.line(0, 0, 1, 0);
                    x.frog(1, 0, 1);
                    s.due("leap(0, 0)", x.leap(0, 0), 0);
                    s.due("n " + n + ", notch " + notch, x.wheelOf(1, 3), Math.floorMod(notch, n));
                    s.due("how often", x.wheelOf(1, 7), 1);
                    s.due("the wheel to which it came", x.wheelOf(0, 3), 0);
                    s.due("leap(0, 0) back", x.leap(0, 0), 0);
                    s.due("the wheel to which it came", x.wheelOf(1, 3), Math.floorMod(notch, n));
                    s.due("leap(0, 0) again", x.leap(0, 0), 0);
                    s.due("once more", x.wheelOf(1, 3), Math.floorMod(2 * notch, n));
                    s.due("how often", x.wheelOf(1, 7), 2);
                    s.due("the other one", 10 * x.wheelOf(0, 3) + x.wheelOf(0, 7), 11);
                }
            }
        });
        s.tell(Sentences.TERMS, "if the frogs that sit on that wheel still have at most its strength, together.", () -> {
            for (int weight = 1; weight <= 9; weight++) {
                turnsWith("its own weight is gone, strength 0", 0, 0, new int[] {weight}, true);
                turnsWith("strength as the weight left", weight, 0, new int[] {9, weight}, true);
                turnsWith("strength 1 less", weight - 1, 0, new int[] {9, weight}, false);
                turnsWith("strength as the weight left", weight, 1, new int[] {weight, 9}, true);
                turnsWith("strength 1 less", weight - 1, 1, new int[] {weight, 9}, false);
            }
            turnsWith("30 of strength 30", 30, 0, new int[] {9, 9, 9, 9, 3}, true);
            turnsWith("31 of strength 30", 30, 0, new int[] {1, 9, 9, 9, 4}, false);
            turnsWith("36 of strength 30", 30, 2, new int[] {9, 9, 1, 9, 9}, false);
            turnsWith("30 of strength 30", 30, 4, new int[] {9, 9, 9, 3, 9}, true);
            turnsWith("30 of strength 29", 29, 4, new int[] {9, 9, 9, 3, 9}, false);
            // The weights on the wheel to which it comes do not count, and that wheel's strength does not.
            LilyWheels x = s.pond("Pw3501w4430w3430l0010f009f019f021f119f129");
            s.due("1 and 9 of strength 1", x.leap(0, 0) + x.wheelOf(0, 7), 0);
            LilyWheels y = s.pond("Pw3501w4400w3400l0010f009f021f119f129f219");
            s.due("1 of strength 1", y.leap(0, 0) + y.wheelOf(0, 7), 1);
            s.due("its turn", y.wheelOf(0, 3), 1);
        });
    }

    /** Frogs sit on the wheel 0 at the places 0, 1, ..; that which leaps has the line. */
    private void turnsWith(String what, int strength, int leaper, int[] weights, boolean turns) {
        LilyWheels x = new LilyWheels();
        x.wheel(5, -1, strength);
        x.wheel(3, 1, 0);
        x.line(1, 0, 0, leaper);
        for (int p = 0; p < weights.length; p++) {
            x.frog(0, p, weights[p]);
        }
        s.due("leap()", x.leap(leaper, 0), 0);
        s.due(what + ", its turn", x.wheelOf(0, 3), turns ? 4 : 0);
        s.due(what + ", its turns by a leap", x.wheelOf(0, 7), turns ? 1 : 0);
        s.due("the other wheel", x.wheelOf(1, 3) + x.wheelOf(1, 7), 0);
    }

    private void hops() {
        s.tell(Sentences.TERMS, "A frog can hop to a side, 1 or -1: to the next place of its wheel, the place p and that"
            + " side, modulo n,", () -> {
                for (int n = 3; n <= 5; n++) {
                    for (int side = -1; side <= 1; side += 2) {
                        LilyWheels x = new LilyWheels();
                        x.wheel(3, 1, 30);
                        x.wheel(n, 1, 30);
                        x.turn(1, 2);
                        x.frog(1, 0, 1);
                        for (int k = 1; k <= 2 * n; k++) {
                            s.due("hop(0, " + side + ")", x.hop(0, side), 0);
                            s.due("its place", x.frogOf(0, 3), Math.floorMod(k * side, n));
                            s.due("its pad", x.frogOf(0, 2), Math.floorMod(k * side - 2, n));
                            s.due("its wheel", x.frogOf(0, 1), 1);
                        }
                    }
                }
            });
        s.tell(Sentences.TERMS, "if it cannot for none of the reasons 2 and 3 (with that place as the other end).", () -> {
            LilyWheels x = s.pond("Pw5430w5430f001f041f111");
            s.due("round the edge sits frog 1", x.hop(0, -1), 2);
            s.due("round the edge sits frog 0", x.hop(1, 1), 2);
            s.due("on another wheel sits frog 2", x.hop(0, 1), 0);
            x.set(1);
            s.due("the latest move", x.hop(0, 1), 3);
            s.due("not the latest move", x.hop(1, 1), 0);
            s.due("2 comes before 3", x.hop(1, 1), 2);
            s.due("3 alone", x.hop(1, -1), 3);
            LilyWheels full = s.pond("Pw5430f001f011f021f031f041");
            for (int f = 0; f < 5; f++) {
                s.due("all places are taken", 10 * full.hop(f, 1) + full.hop(f, -1), 22);
            }
            s.due("no move was made", full.about(3), 0);
        });
        s.tell(Sentences.TERMS, "It eats all flies there; nothing turns.", () -> {
            for (int flies = 0; flies <= 9; flies++) {
                LilyWheels x = s.pond("Pw5830w3430f001y033");
                if (flies > 0) {
                    x.flies(0, 4, flies);
                }
                s.due("hop(0, -1)", x.hop(0, -1), 0);
                s.due("it ate", x.frogOf(0, 4), flies);
                s.due("flies left", x.placeOf(0, 4, 1), 0);
                s.due("flies elsewhere", x.placeOf(0, 3, 1), 3);
                s.due("turns", x.wheelOf(0, 3) + x.wheelOf(0, 7) + x.wheelOf(1, 3) + x.wheelOf(1, 7), 0);
            }
        });
        s.tell(Sentences.TERMS, "Leaps and hops are moves.", () -> {
            LilyWheels x = s.pond("Pw4430w4430l0013f001f021");
            s.due("at first", x.about(3), 0);
            x.hop(1, 1);
            s.due("behind a hop", 100 * x.about(3) + 10 * x.frogOf(0, 5) + x.frogOf(1, 5), 101);
            x.leap(0, 0);
            s.due("behind a leap", 100 * x.about(3) + 10 * x.frogOf(0, 5) + x.frogOf(1, 5), 211);
            s.due("one that cannot be made", x.leap(1, 0), 1);
            x.turn(0, 1);
            x.flies(0, 0, 1);
            x.set(1);
            s.due("behind what is no move", 100 * x.about(3) + 10 * x.frogOf(0, 5) + x.frogOf(1, 5), 211);
            s.due("the latest frog", x.about(8), 0);
        });
    }

    private void fliesThatCome() {
        s.tell(Sentences.TERMS, "Behind each one, with m as the moves so far, this one too, a fly comes to the pad at the"
            + " place m modulo n of the wheel m modulo (the wheels):", () -> {
                for (int wheels = 1; wheels <= 3; wheels++) {
                    for (int r = 0; r < 3; r++) {
                        fliesCome(wheels, r);
                    }
                }
                LilyWheels x = s.pond("Pw4430w4430l0013f001f021");
                x.turn(0, 1);
                s.due("a leap that cannot be made", x.leap(0, 0), 1);
                s.due("no fly comes without a move", x.about(7), 0);
                x.turn(0, -1);
                s.due("a leap that can be made", x.leap(0, 0), 0);
                s.due("a fly comes", x.about(7), 1);
                s.due("to the place 1 of the wheel 1", x.placeOf(1, 1, 1), 1);
            });
        s.tell(Sentences.TERMS, "a frog that sits there eats it at once;", () -> {
            LilyWheels x = s.pond("Pw3430w3430f001f119y115");
            s.due("hop(0, 1)", x.hop(0, 1), 0);
            s.due("another one ate it", x.frogOf(1, 4), 1);
            s.due("the flies below it stay", x.placeOf(1, 1, 1), 5);
            LilyWheels y = s.pond("Pw3430f001y019");
            s.due("hop(0, 1)", y.hop(0, 1), 0);
            s.due("the one that moved ate it, too", y.frogOf(0, 4), 10);
            s.due("nothing is left", y.about(4), 0);
            LilyWheels z = s.pond("Pw3430w3430f001f111y119");
            s.due("hop(0, 1)", z.hop(0, 1), 0);
            s.due("it ate it, though the pad is full", z.frogOf(1, 4), 1);
            s.due("none went off", z.about(6), 0);
            // It is told behind the turn: line 0 leads away from (1, 0), whose wheel turns by 1.
            LilyWheels v = s.pond("Pw3430w3530l0010f101f121");
            s.due("leap(0, 0)", v.leap(0, 0), 0);
            s.due("frog 1 has come to the place 0", v.frogOf(1, 3), 0);
            s.due("so it did not eat the fly at the place 1", v.frogOf(1, 4), 0);
            LilyWheels u = s.pond("Pw3430w3530l0012f121f101");
            s.due("leap(0, 0)", u.leap(0, 0), 0);
            s.due("frog 1 has come to the place 1", u.frogOf(1, 3), 1);
            s.due("so it ate the fly", u.frogOf(1, 4), 1);
        });
        s.tell(Sentences.TERMS, "otherwise the pad has 1 fly more, if it has fewer than 9; otherwise the fly goes off.", () -> {
            for (int flies = 0; flies <= 9; flies++) {
                LilyWheels x = s.pond("Pw3430w3430f001");
                if (flies > 0) {
                    x.flies(1, 1, flies);
                }
                s.due("hop(0, 1)", x.hop(0, 1), 0);
                s.due("flies on it", x.placeOf(1, 1, 1), Math.min(flies + 1, 9));
                s.due("gone off", x.about(6), flies == 9 ? 1 : 0);
                s.due("came", x.about(7), flies + 1);
                s.due("eaten", x.about(5), 0);
            }
        });
    }

    /** 40 hops of one frog on the wheel 0, the wheels having 3, 4 and 5 places, and each the turn r. */
    private void fliesCome(int wheels, int r) {
        LilyWheels x = new LilyWheels();
        for (int w = 0; w < wheels; w++) {
            x.wheel(3 + w, 1, 30);
            x.turn(w, r);
        }
        x.frog(0, 0, 1);
        for (int m = 1; m <= 40; m++) {
            int w = m % wheels;
            int p = m % (3 + w);
            int before = x.placeOf(w, p, 1);
            int ate = x.frogOf(0, 4);
            s.due("hop()", x.hop(0, m % 3 == 0 ? -1 : 1), 0);
            boolean here = w == 0 && x.frogOf(0, 3) == p;
            s.due(wheels + " wheels, r " + r + ", the fly of the move " + m, x.placeOf(w, p, 1),
                here ? 0 : Math.min(9, before + 1));
            s.due("came", x.about(7), m);
            if (here) {
                s.due("it ate it with what was there", x.frogOf(0, 4), ate + before + 1);
            }
        }
    }

    private void constants() {
        s.tell(Sentences.TERMS, "The constants: `NONE = -1`: There is no such result.", () -> {
            s.due("NONE", LilyWheels.NONE, -1);
            s.due("nobody moved", new LilyWheels().about(8), -1);
            s.due("nobody sits there", s.pond("Pw3430").placeOf(0, 0, 2), -1);
            s.due("it is a pond", s.pond("P").errorPosition(), -1);
            s.due("it cannot come there", s.pond("Pw3430w3430f001").fewest(0, 1, 0, 0), -1);
            s.due("nothing fails", s.pond("P").runScript(1, 60000), -1);
        });
        s.tell(Sentences.TERMS, "0: 0 or 1, at first 0.", () -> {
            s.due("at first", new LilyWheels().about(9), 0);
            for (Start start : Start.values()) {
                for (int v : Sentences.beyond(0, 1)) {
                    s.refused(start, "set(" + v + ")", Sentences.BAD, x -> x.set(v));
                }
                LilyWheels x = start.make();
                x.set(0);
                s.due("set(1) behind set(0)", x.set(1), 0);
                s.due("about(9)", x.about(9), 1);
                s.due("set(0) behind set(1)", x.set(0), 1);
                s.due("about(9)", x.about(9), 0);
            }
        });
    }
}
