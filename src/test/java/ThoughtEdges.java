import java.util.Random;

/** Promises 20 to 25: what would be, scripts and simulations. */
final class ThoughtEdges {
    private static final int NONE = Sentences.NONE;
    private static final Class<IndexOutOfBoundsException> NO_SUCH = Sentences.NO_SUCH;
    private static final Class<IllegalArgumentException> BAD = Sentences.BAD;

    private final Sentences s;

    private ThoughtEdges(Sentences s) {
        this.s = s;
    }

    static void tell(Sentences s) {
        ThoughtEdges it = new ThoughtEdges(s);
        it.changeNothing();
        it.why();
        it.fewest();
        it.fewestArguments();
        it.couldBe();
        it.mostFlies();
        it.mostFliesArguments();
        it.scripts();
        it.scriptMoves();
        it.scriptQuestions();
        it.scriptArguments();
        it.simulations();
        it.simulatedTurns();
    }

    private void changeNothing() {
        s.tell(Sentences.TERMS, "---- what would be; these and all following methods up to the save slots change nothing.",
            () -> {
                for (Start start : new Start[] {Start.SOME, Start.FULL}) {
                    for (int l = 0; l < 2; l++) {
                        int line = l;
                        s.harmless(start, "why(0, " + l + ")", x -> x.why(0, line));
                    }
                    for (int way = 0; way <= 1; way++) {
                        int its = way;
                        s.harmless(start, "fewest(1, 0, 4, " + way + ")", x -> x.fewest(1, 0, 4, its));
                    }
                    s.harmless(start, "couldBe(0, 1)", x -> x.couldBe(0, 1));
                    for (int n = 1; n <= 4; n++) {
                        int its = n;
                        s.harmless(start, "mostFlies(1, " + n + ")", x -> x.mostFlies(1, its));
                    }
                    for (int f = 0; f < 5; f++) {
                        for (int side = 0; side <= 1; side++) {
                            long hop = 20000 + 1000 * f + 100 * side;
                            s.harmless(start, "runScript(1, " + hop + ")", x -> x.runScript(1, hop));
                        }
                        for (int l = 0; l < 8; l++) {
                            long leap = 10000 + 1000 * f + 10 * l;
                            s.harmless(start, "runScript(1, " + leap + ")", x -> x.runScript(1, leap));
                        }
                    }
                    s.harmless(start, "runScript(3, ..)", x -> x.runScript(3, 210003000121100L));
                    s.harmless(start, "runScript(2, ..)", x -> x.runScript(2, 3000731008L));
                }
                s.due("these make a move", Start.SOME.make().runScript(1, 21000), NONE);
                s.due("these make a move and a turn", Start.SOME.make().runScript(3, 210003000121100L), 2);
                s.due("these make two turns", Start.FULL.make().runScript(2, 3000731008L), NONE);
                for (Start start : Start.values()) {
                    s.harmless(start, "runScript(1, 0)", x -> x.runScript(1, 0));
                    for (long seed = 0; seed < 8; seed++) {
                        long its = seed;
                        s.harmless(start, "simulate(" + seed + ", 60)", x -> x.simulate(its, 60));
                    }
                }
            });
    }

    private void why() {
        s.tell(20, "Tells why a frog cannot leap along a line.", () -> {
            LilyWheels x = s.pond("Pw5430w5430l0410f001f011f021f031f041");
            for (int f = 0; f < 4; f++) {
                s.due("why(" + f + ", 0)", x.why(f, 0), 1);
            }
            s.due("why(4, 0)", x.why(4, 0), 0);
            LilyWheels y = s.pond("Pw5430w5430l0110l0110l0110l0110l0110l0110l0110l1400f001");
            for (int l = 0; l < 7; l++) {
                s.due("why(0, " + l + ")", y.why(0, l), 1);
            }
            s.due("why(0, 7)", y.why(0, 7), 0);
        });
        s.tell(20, "f: frog", () -> {
            LilyWheels x = s.pond("Pw3430w3430l0010f001f011");
            s.due("why(0, 0)", x.why(0, 0), 0);
            s.due("why(1, 0)", x.why(1, 0), 1);
        });
        s.tell(20, "l: line", () -> {
            LilyWheels x = s.pond("Pw3430w3430l0110l0010f001");
            s.due("why(0, 0)", x.why(0, 0), 1);
            s.due("why(0, 1)", x.why(0, 1), 0);
        });
        s.tell(20, "Returns the reason; 0 if it can.", () -> {
            LilyWheels x = s.pond("Pw3430w3430l0010l0111l0212f001f021f121");
            s.due("it can", x.why(0, 0), 0);
            s.due("1: it is elsewhere", x.why(0, 1), 1);
            s.due("2: the other one sits there", x.why(1, 2), 2);
            s.due("2: from the other end", x.why(2, 2), 2);
            x.set(1);
            s.due("nobody has moved yet", x.why(0, 0), 0);
            x.leap(0, 0);
            s.due("3: its move was the latest", x.why(0, 0), 3);
            s.due("1 ahead of 3", x.why(0, 1), 1);
            x.frog(0, 0, 1);
            s.due("2 ahead of 3", x.why(0, 0), 2);
            s.due("2 without 3", x.why(3, 0), 2);
            x.turn(0, -1);
            s.due("3 where the pad has gone round", x.why(0, 0), 3);
            x.set(0);
            s.due("it can with setting 0 as 0", x.why(0, 0), 0);
            s.due("as leap() answers then", x.leap(0, 0), 0);
        });
        s.tell(20, "Throws IndexOutOfBoundsException if there is no such frog or line", () -> {
            for (int f : Sentences.beyond(0, 4)) {
                s.refusedAnywhere("why(" + f + ", 0)", NO_SUCH, x -> x.why(f, 0));
            }
            for (int l : Sentences.beyond(0, 7)) {
                s.refusedAnywhere("why(0, " + l + ")", NO_SUCH, x -> x.why(0, l));
            }
            s.refused(Start.EMPTY, "why(0, 0)", NO_SUCH, x -> x.why(0, 0));
            s.refused(Start.SOME, "why(2, 0)", NO_SUCH, x -> x.why(2, 0));
            s.refused(Start.SOME, "why(0, 2)", NO_SUCH, x -> x.why(0, 2));
        });
    }

    private void fewestIs(LilyWheels x, int f, int w, int p, int want) {
        for (int way = 0; way <= 1; way++) {
            s.due("fewest(" + f + ", " + w + ", " + p + ", " + way + ")", x.fewest(f, w, p, way), want);
        }
    }

    private void fewest() {
        s.tell(21, "Tells the fewest moves by which a frog comes to a place, if no other one moves, and setting 0 is 0.",
            () -> {
                // Round the edge of each wheel.
                for (int n = 3; n <= 5; n++) {
                    LilyWheels x = new LilyWheels();
                    x.wheel(n, 1, 30);
                    x.turn(0, 1);
                    x.frog(0, 0, 1);
                    for (int p = 0; p < n; p++) {
                        fewestIs(x, 0, 0, p, Math.min(p, n - p));
                    }
                }
                // Setting 0 is taken as 0, though it is 1, and the frog made the latest move.
                LilyWheels y = s.pond("Pw5430w3430l0011f001");
                y.hop(0, 1);
                y.set(1);
                s.due("it cannot hop now", y.hop(0, 1), 3);
                fewestIs(y, 0, 0, 2, 1);
                fewestIs(y, 0, 0, 4, 2);
                fewestIs(y, 0, 1, 1, 2);
                // All lines that there can be end at one place: ten ways lead away from it.
                LilyWheels all = s.pond("Pw5430w5430w3430l0010l0011l0012l0013l0014l2000l2100l2200f001");
                for (int p = 0; p < 5; p++) {
                    fewestIs(all, 0, 0, p, Math.min(p, 5 - p));
                    fewestIs(all, 0, 1, p, 1);
                    fewestIs(all, 0, 2, p % 3, 1);
                }
                // A line that is taken back leads nowhere; nor do those of what was loaded before.
                LilyWheels undone = s.pond("Pw5430w5430f001");
                undone.line(0, 0, 1, 1);
                fewestIs(undone, 0, 1, 1, 1);
                undone.undo();
                fewestIs(undone, 0, 1, 1, NONE);
                Start.write(all, "Pw5430w5430w3430f001");
                all.load();
                fewestIs(all, 0, 1, 0, NONE);
                fewestIs(all, 0, 2, 2, NONE);
                // No other one moves out of the way.
                LilyWheels z = s.pond("Pw5430f001f011f041");
                fewestIs(z, 0, 0, 2, NONE);
                fewestIs(z, 1, 0, 2, 1);
                fewestIs(z, 1, 0, 3, 2);
            });
        s.tell(21, "Returns how many, 0 if it is there now (the same for both ways); NONE if it cannot come there.", () -> {
            LilyWheels x = s.pond("Pw5430w5430w5430f001f111f221f231f241");
            x.turn(2, 3);
            fewestIs(x, 0, 0, 0, 0);
            fewestIs(x, 1, 1, 1, 0);
            fewestIs(x, 2, 2, 0, 0);
            fewestIs(x, 3, 2, 1, 0);
            fewestIs(x, 3, 2, 0, NONE);
            fewestIs(x, 4, 2, 2, 0);
            fewestIs(x, 0, 1, 0, NONE);
            fewestIs(x, 0, 2, 0, NONE);
            // A line to a place where another frog sits.
            LilyWheels y = s.pond("Pw3430w3430l0010f001f101");
            fewestIs(y, 0, 1, 0, NONE);
            fewestIs(y, 0, 1, 1, NONE);
            LilyWheels full = s.pond("Pw5530w3430l0010f001f011f021f031f041");
            fewestIs(full, 0, 1, 0, 1);
            fewestIs(full, 1, 1, 0, NONE);
            fewestIs(full, 1, 0, 2, NONE);
            // The longest ways that a search found; PondModel answers the same.
            fewestIs(s.pond("Pw5112w5521w5228l1300l1423l1222l2002f214f049f113f136"), 1, 1, 1, 50);
            fewestIs(s.pond("Pw3800w5315w5814l1123l1100l0210l1401l1301l2411f231f204f106f118f128"), 3, 2, 2, 46);
            fewestIs(s.pond("Pw5619w5426w3212l0120l1203l1122l0220l2013l1122f012f124f036f226f109"), 4, 0, 3, 45);
            fewestIs(s.pond("Pw5014w4809w4715l0323l1321l1100l2110l2311l2304l1002f045f116f006f027f214"), 0, 0, 1, 44);
        });
        s.tell(21, "way: 0: told by what can be had by one move more, and so on; 1: told by how far the place is from each"
            + " way in which the wheels and the frog could stand, corrected until nothing changes any more", () -> {
                Random random = new Random(11);
                for (int run = 0; run < 60; run++) {
                    LilyWheels x = new LilyWheels();
                    PondModel model = new PondModel();
                    for (int i = 0; i < 24; i++) {
                        int a = random.nextInt(3);
                        int b = random.nextInt(5);
                        int c = random.nextInt(9);
                        int kind = i < 3 ? 0 : 1 + i % 3;
                        outcome(kind, a, b, c, x, model);
                    }
                    for (int p = 0; p < 15; p++) {
                        int w = p / 5;
                        int f = run % Math.max(1, x.about(2));
                        if (x.about(2) > f && p % 5 < x.wheelOf(w, 0)) {
                            fewestIs(x, f, w, p % 5, model.fewest(f, w, p % 5, 0));
                        }
                    }
                }
            });
    }

    /** The same call on both; both refuse the same ones. */
    private static void outcome(int kind, int a, int b, int c, LilyWheels x, PondModel model) {
        Whole.Call[] calls = {y -> y.wheel(3 + a, c - 4, 3 * c), y -> y.line(a, b, (a + 1) % 3, c % 5),
            y -> y.frog(a, b, 1 + c), y -> y.turn(a, c - 4)};
        Whole.outcome(calls[kind], x);
        try {
            switch (kind) {
                case 0: model.wheel(3 + a, c - 4, 3 * c); break;
                case 1: model.line(a, b, (a + 1) % 3, c % 5); break;
                case 2: model.frog(a, b, 1 + c); break;
                default: model.turn(a, c - 4); break;
            }
        } catch (IndexOutOfBoundsException | IllegalArgumentException | IllegalStateException e) {
            return;
        }
    }

    private void fewestArguments() {
        s.tell(21, "f: frog", () -> {
            LilyWheels x = s.pond("Pw5430f001f011f021f031");
            fewestIs(x, 0, 0, 4, 1);
            fewestIs(x, 1, 0, 4, NONE);
            fewestIs(x, 3, 0, 4, 1);
        });
        s.tell(21, "w: wheel", () -> {
            LilyWheels x = s.pond("Pw3430w3430w3430l0010l1120f001");
            fewestIs(x, 0, 0, 0, 0);
            fewestIs(x, 0, 1, 0, 1);
            fewestIs(x, 0, 2, 0, 3);
        });
        s.tell(21, "p: place", () -> {
            LilyWheels x = s.pond("Pw3430w5430l0014f001");
            int[] want = {2, 3, 3, 2, 1};
            for (int p = 0; p < 5; p++) {
                fewestIs(x, 0, 1, p, want[p]);
            }
        });
        s.tell(21, "Throws IndexOutOfBoundsException if there is no such frog, wheel or place", () -> {
            for (int way = 0; way <= 1; way++) {
                int its = way;
                for (int f : Sentences.beyond(0, 4)) {
                    s.refusedAnywhere("fewest(" + f + ", 0, 0, " + way + ")", NO_SUCH, x -> x.fewest(f, 0, 0, its));
                }
                for (int w : Sentences.beyond(0, 2)) {
                    s.refusedAnywhere("fewest(0, " + w + ", 0, " + way + ")", NO_SUCH, x -> x.fewest(0, w, 0, its));
                }
                for (int p : Sentences.beyond(0, 4)) {
                    s.refusedAnywhere("fewest(0, 0, " + p + ", " + way + ")", NO_SUCH, x -> x.fewest(0, 0, p, its));
                }
                s.refused(Start.EMPTY, "fewest(0, 0, 0, " + way + ")", NO_SUCH, x -> x.fewest(0, 0, 0, its));
                s.refused(Start.SOME, "fewest(2, 0, 0, " + way + ")", NO_SUCH, x -> x.fewest(2, 0, 0, its));
                s.refused(Start.SOME, "fewest(0, 2, 0, " + way + ")", NO_SUCH, x -> x.fewest(0, 2, 0, its));
                s.refused(Start.SOME, "fewest(0, 1, 3, " + way + ")", NO_SUCH, x -> x.fewest(0, 1, 3, its));
            }
            s.refused(s.pond("Pw3430"), "fewest(0, 0, 0, 0) without frogs", NO_SUCH, x -> x.fewest(0, 0, 0, 0));
            s.refused(Start.SOME, "fewest(2, 0, 0, 2): the frog comes first", NO_SUCH, x -> x.fewest(2, 0, 0, 2));
            s.refused(Start.SOME, "fewest(0, 2, 0, 2): the wheel comes first", NO_SUCH, x -> x.fewest(0, 2, 0, 2));
            s.refused(Start.SOME, "fewest(0, 1, 3, -1): the place comes first", NO_SUCH, x -> x.fewest(0, 1, 3, -1));
        });
        s.tell(21, "Throws IllegalArgumentException if way is neither 0 nor 1", () -> {
            for (int way : Sentences.beyond(0, 1)) {
                s.refused(Start.SOME, "fewest(0, 1, 2, " + way + ")", BAD, x -> x.fewest(0, 1, 2, way));
                s.refused(Start.SOME, "where it is now", BAD, x -> x.fewest(0, 1, 1, way));
                s.refused(Start.FULL, "fewest(4, 2, 2, " + way + ")", BAD, x -> x.fewest(4, 2, 2, way));
            }
        });
    }

    private void couldBe() {
        s.tell(22, "Tells where a frog could be.", () -> {
            for (Start start : new Start[] {Start.SOME, Start.FULL}) {
                LilyWheels x = start.make();
                for (int f = 0; f < x.about(2); f++) {
                    for (int w = 0; w < x.about(0); w++) {
                        int set = 0;
                        for (int p = 0; p < x.wheelOf(w, 0); p++) {
                            set |= x.fewest(f, w, p, 0) == NONE ? 0 : 1 << p;
                        }
                        s.due(start + ": couldBe(" + f + ", " + w + ")", x.couldBe(f, w), set);
                    }
                }
            }
        });
        s.tell(22, "f: frog", () -> {
            LilyWheels x = s.pond("Pw5430f001f011f021f031");
            int[] want = {17, 2, 4, 24};
            for (int f = 0; f < 4; f++) {
                s.due("couldBe(" + f + ", 0)", x.couldBe(f, 0), want[f]);
            }
        });
        s.tell(22, "w: wheel", () -> {
            LilyWheels x = s.pond("Pw3430w4430w5430l0010f001f011f021f101f221");
            x.turn(1, 2);
            int[] want = {1, 11, 0};
            for (int w = 0; w < 3; w++) {
                s.due("couldBe(0, " + w + ")", x.couldBe(0, w), want[w]);
            }
            s.due("couldBe(4, 2)", x.couldBe(4, 2), 31);
        });
        s.tell(22, "Returns the places of this wheel for which fewest() is not NONE, as a set (bit p for the place p).", () -> {
            for (int n = 3; n <= 5; n++) {
                LilyWheels x = new LilyWheels();
                x.wheel(n, 0, 0);
                x.frog(0, 1, 1);
                s.due("all " + n + " places", x.couldBe(0, 0), (1 << n) - 1);
                x.wheel(3, 0, 0);
                s.due("none of another wheel", x.couldBe(0, 1), 0);
            }
            for (int p = 0; p < 5; p++) {
                LilyWheels x = s.pond("Pw5430");
                x.frog(0, p, 1);
                x.frog(0, (p + 1) % 5, 1);
                x.frog(0, (p + 4) % 5, 1);
                s.due("shut in at " + p, x.couldBe(0, 0), 1 << p);
            }
            LilyWheels x = s.pond("Pw5430f001");
            x.set(1);
            x.hop(0, 1);
            s.due("setting 0 does not count", x.couldBe(0, 0), 31);
        });
        s.tell(22, "Throws IndexOutOfBoundsException if there is no such frog or wheel", () -> {
            for (int f : Sentences.beyond(0, 4)) {
                s.refusedAnywhere("couldBe(" + f + ", 0)", NO_SUCH, x -> x.couldBe(f, 0));
            }
            for (int w : Sentences.beyond(0, 2)) {
                s.refusedAnywhere("couldBe(0, " + w + ")", NO_SUCH, x -> x.couldBe(0, w));
            }
            s.refused(Start.EMPTY, "couldBe(0, 0)", NO_SUCH, x -> x.couldBe(0, 0));
            s.refused(Start.SOME, "couldBe(2, 0)", NO_SUCH, x -> x.couldBe(2, 0));
            s.refused(Start.SOME, "couldBe(0, 2)", NO_SUCH, x -> x.couldBe(0, 2));
            s.refused(s.pond("Pw3430"), "couldBe(0, 0) without frogs", NO_SUCH, x -> x.couldBe(0, 0));
        });
    }

    private void mostIs(LilyWheels x, int f, int... want) {
        for (int n = 1; n <= 4; n++) {
            s.due("mostFlies(" + f + ", " + n + ")", x.mostFlies(f, n), want[n - 1]);
        }
    }

    private void mostFlies() {
        s.tell(23, "Tells the most flies that a frog could eat.", () -> {
            // By leaps and hops, on three wheels.
            mostIs(s.pond("Pw5430w5430w5430l0010l1221f001y119y129y219y209"), 0, 0, 9, 18, 27);
            // The most that there can be.
            mostIs(s.pond("Pw5430w5430l0010f001y109y119y129y139y149"), 0, 9, 18, 27, 36);
            mostIs(s.pond("Pw5430f001"), 0, 0, 0, 0, 0);
            // On each pad of each wheel.
            for (int w = 0; w < 3; w++) {
                for (int p = 0; p < 5; p++) {
                    LilyWheels x = s.pond("Pw5430w5430w5430");
                    x.frog(w, (p + 1) % 5, 1);
                    x.flies(w, p, p + 5);
                    mostIs(x, 0, p + 5, p + 5, p + 5, p + 5);
                }
            }
        });
        s.tell(23, "Returns the most flies that it could eat in n moves or fewer, if no other one moves, setting 0 is 0, and"
            + " no fly comes.", () -> {
                // Shut in, it can make no move; what it ate so far does not count.
                LilyWheels in = s.pond("Pw5430f001y019y049y009h0+h0-f011f041");
                s.due("it ate so far", in.frogOf(0, 4) > 0);
                mostIs(in, 0, 0, 0, 0, 0);
                // The pad below it, when it comes back; but no pad twice.
                mostIs(s.pond("Pw3430f001y005"), 0, 0, 5, 5, 5);
                mostIs(s.pond("Pw3430f001y011"), 0, 1, 1, 1, 1);
                mostIs(s.pond("Pw5430f001y001y012y044"), 0, 4, 5, 7, 7);
                // It may have to come to a pad twice, where it eats nothing more: to 1, 0, 1 and 2.
                mostIs(s.pond("Pw5430f001f041y009y015y022"), 0, 5, 14, 14, 16);
                // Fewer moves than n are enough, and a longer way may be the best.
                mostIs(s.pond("Pw5430f001y012y039"), 0, 2, 9, 11, 11);
                // No fly comes: m = 1 would bring one to the place 1, m = 2 one to 2.
                mostIs(s.pond("Pw3430f001"), 0, 0, 0, 0, 0);
                LilyWheels y = s.pond("Pw3430f001");
                y.hop(0, 1);
                y.set(1);
                s.due("it cannot hop now", y.hop(0, 1), 3);
                y.flies(0, 2, 6);
                mostIs(y, 0, 6, 6, 6, 6);
                // No other one moves out of the way.
                mostIs(s.pond("Pw5430f001f011y027y049"), 0, 9, 9, 16, 16);
                // The two others are 2 together; strength 2: behind its leap the wheel turns, and
                // its old pad lies at the place 1. Strength 1: the pad stays.
                mostIs(s.pond("Pw3502w3430l0010l0111f001f011f021y003"), 0, 0, 0, 3, 3);
                mostIs(s.pond("Pw3501w3430l0010l0111f001f011f021y003"), 0, 0, 3, 3, 3);
                mostIs(s.pond("Pw3502w3430l0010f001f011f021y003"), 0, 0, 0, 0, 0);
            });
        s.tell(23, "no fly comes.", () -> {
            // Two wheels: m = 1 would bring a fly to (1, 1), m = 2 one to (0, 2), m = 3 one to (1, 0).
            mostIs(s.pond("Pw3430w3430l0010f001"), 0, 0, 0, 0, 0);
            mostIs(s.pond("Pw3430w3430l0010f101"), 0, 0, 0, 0, 0);
        });
    }

    private void mostFliesArguments() {
        s.tell(23, "f: frog", () -> {
            LilyWheels x = s.pond("Pw5430w5430f001f021f111f131f141y013y035y129y101");
            s.due("mostFlies(0, 1)", x.mostFlies(0, 1), 3);
            s.due("mostFlies(1, 1)", x.mostFlies(1, 1), 5);
            s.due("mostFlies(2, 1)", x.mostFlies(2, 1), 9);
            s.due("mostFlies(3, 1)", x.mostFlies(3, 1), 9);
            s.due("mostFlies(4, 1)", x.mostFlies(4, 1), 1);
        });
        s.tell(23, "n: 1 to 4", () -> {
            LilyWheels x = s.pond("Pw5430f001y011y022y034y048");
            mostIs(x, 0, 8, 12, 14, 15);
            for (int n : Sentences.beyond(1, 4)) {
                s.refused(Start.SOME, "mostFlies(1, " + n + ")", BAD, y -> y.mostFlies(1, n));
            }
        });
        s.tell(23, "Throws IndexOutOfBoundsException if there is no such frog", () -> {
            for (int f : Sentences.beyond(0, 4)) {
                s.refusedAnywhere("mostFlies(" + f + ", 1)", NO_SUCH, x -> x.mostFlies(f, 1));
                s.refusedAnywhere("mostFlies(" + f + ", 0): the frog comes first", NO_SUCH, x -> x.mostFlies(f, 0));
                s.refusedAnywhere("mostFlies(" + f + ", 5): the frog comes first", NO_SUCH, x -> x.mostFlies(f, 5));
            }
            s.refused(Start.EMPTY, "mostFlies(0, 1)", NO_SUCH, x -> x.mostFlies(0, 1));
            s.refused(Start.SOME, "mostFlies(2, 4)", NO_SUCH, x -> x.mostFlies(2, 4));
        });
        s.tell(23, "Throws IllegalArgumentException if n is out of range", () -> {
            for (int n : Sentences.beyond(1, 4)) {
                s.refused(Start.SOME, "mostFlies(0, " + n + ")", BAD, x -> x.mostFlies(0, n));
                s.refused(Start.FULL, "mostFlies(4, " + n + ")", BAD, x -> x.mostFlies(4, n));
            }
        });
    }

    private void script(LilyWheels x, int n, long script, int want) {
        s.due("runScript(" + n + ", " + script + ")", x.runScript(n, script), want);
    }

    private void succeeds(LilyWheels x, long... groups) {
        for (long group : groups) {
            script(x, 1, group, NONE);
        }
    }

    private void fails(LilyWheels x, long... groups) {
        for (long group : groups) {
            script(x, 1, group, 0);
        }
    }

    private void scripts() {
        s.tell(24, "Runs a script on a copy of the state.", () -> {
            LilyWheels x = s.pond("Pw5430f001");
            for (int i = 0; i < 3; i++) {
                script(x, 2, 2010040010L, NONE);
                script(x, 2, 2000040040L, NONE);
                script(x, 2, 3000540010L, NONE);
            }
            s.due("its place", x.frogOf(0, 3), 0);
            s.due("moves", x.about(3), 0);
            // Behind a script the copy holds what the state has become.
            x.hop(0, 1);
            script(x, 1, 40010L, NONE);
            x.undo();
            script(x, 1, 40000L, NONE);
        });
        s.tell(24, "A script has 1 to 3 commands; each is a group of five decimal digits d1 to d5, and the first command is"
            + " the highest group of the number (with zeros before it, if it has fewer digits).", () -> {
                LilyWheels x = s.pond("Pw5430f001");
                script(x, 1, 60000L, NONE);
                script(x, 2, 6000060000L, NONE);
                script(x, 3, 600006000060000L, NONE);
                script(x, 3, 600006000060001L, 2);
                script(x, 3, 600006000160000L, 1);
                script(x, 3, 600016000060000L, 0);
                script(x, 2, 6000060001L, 1);
                script(x, 2, 6000160000L, 0);
                // Zeros ahead of it make the first command 00000, which is none.
                script(x, 2, 60000L, 0);
                script(x, 3, 6000060000L, 0);
                script(x, 3, 60000L, 0);
                script(x, 1, 0L, 0);
                script(x, 3, 0L, 0);
                // One after the other, on what the ones ahead have made.
                script(x, 3, 201002010040020L, NONE);
                script(x, 3, 200002000040030L, NONE);
                script(x, 3, 201002000040000L, NONE);
            });
        s.tell(24, "Returns the index, from 0, of the first command that fails; NONE if all succeed.", () -> {
            LilyWheels x = s.pond("Pw5430f001");
            script(x, 3, 0L, 0);
            script(x, 3, 600000000000000L, 1);
            script(x, 3, 600006000000000L, 2);
            script(x, 3, 600006000060000L, NONE);
            script(x, 3, 999999999999999L, 0);
            script(x, 1, 99999L, 0);
        });
        s.tell(24, "and so does any other group (also one with another digit where a 0 is written, or an s above 1).", () -> {
            for (int kind = 0; kind < 4; kind++) {
                everyGroup(kind);
            }
        });
    }

    /** All scripts of one command, on one of four ponds. */
    private void everyGroup(int kind) {
        LilyWheels x = null;
        int wrong = 0;
        for (int group = 0; group < 100000; group++) {
            // What is asked of an object, and what is due there, stays under 512 calls.
            if (group % 25 == 0) {
                x = new LilyWheels();
                if (kind == 1) {
                    x = Start.SOME.make();
                } else if (kind == 2) {
                    x = Start.FULL.make();
                } else if (kind == 3) {
                    x = Start.SOME.make();
                    x.set(0);
                    x.flies(1, 2, 5);
                    x.hop(0, 1);
                }
            }
            int want = holds(x, group) ? NONE : 0;
            if (x.runScript(1, group) != want) {
                wrong++;
                s.due("pond " + kind + ", runScript(1, " + group + ")", x.runScript(1, group), want);
            }
        }
        s.due("wrong ones of all groups on the pond " + kind, wrong, 0);
    }

    /** Whether the command succeeds, as the methods tell; those that act are taken back. */
    private static boolean holds(LilyWheels x, int group) {
        int b = group / 1000 % 10;
        int c = group / 100 % 10;
        int d = group / 10 % 10;
        int e = group % 10;
        int wheels = x.about(0);
        boolean frog = b < x.about(2);
        boolean line = 10 * c + d < x.about(1);
        switch (group / 10000) {
            case 1: return e == 0 && frog && line && tried(x, y -> y.leap(b, 10 * c + d));
            case 2: return c <= 1 && d == 0 && e == 0 && frog && tried(x, y -> y.hop(b, c == 1 ? 1 : -1));
            case 3: return c == 0 && d == 0 && b < wheels && e <= 8;
            case 4: return e == 0 && frog && c < wheels && d < x.wheelOf(c, 0) && x.frogOf(b, 1) == c && x.frogOf(b, 3) == d;
            case 5: return c == 0 && d == 0 && b < wheels && x.wheelOf(b, 3) == e;
            case 6: return b == 0 && c == 0 && x.about(5) >= 10 * d + e;
            case 7: return d == 0 && b < wheels && c < x.wheelOf(b, 0) && x.placeOf(b, c, 1) >= e;
            case 8: return frog && line && x.why(b, 10 * c + d) == e;
            case 9: return c == 0 && frog && x.frogOf(b, 4) >= 10 * d + e;
            default: return false;
        }
    }

    private static boolean tried(LilyWheels x, Whole.Call move) {
        x.save(1);
        boolean made = move.on(x) == 0;
        x.restore(1);
        return made;
    }

    private void scriptMoves() {
        s.tell(24, "1 f l l 0: leap(f, ll); succeeds if it leaps.", () -> {
            LilyWheels x = s.pond("Pw3530w3430l0111l0111l0111l0111l0111l0111l0111l0012f001f011f101");
            succeeds(x, 10070, 11000, 11060);
            fails(x, 10000, 10060, 10080, 10100, 10170, 10770, 10990, 12000, 12070, 13000, 19000, 10071, 10079);
            script(x, 2, 1007040120L, NONE);
            script(x, 2, 1007050001L, NONE);
            x.set(1);
            script(x, 2, 1007010070L, 1);
            x.frog(1, 2, 1);
            fails(x, 10070);
        });
        s.tell(24, "2 f s 0 0: hop(f, 1) with s as 1, hop(f, -1) with s as 0; succeeds if it hops.", () -> {
            LilyWheels x = s.pond("Pw5430f001f021f031");
            succeeds(x, 20000, 20100, 21000, 22100);
            fails(x, 21100, 22000, 20200, 20900, 20001, 20010, 20101, 20110, 23000, 23100, 29000);
            script(x, 2, 2000040040L, NONE);
            script(x, 2, 2010040010L, NONE);
            x.set(1);
            script(x, 2, 2010020000L, 1);
        });
        s.tell(24, "3 w 0 0 k: turn(w, k less 4).", () -> {
            LilyWheels x = s.pond("Pw5430w5430w5430");
            for (int w = 0; w < 3; w++) {
                for (int k = 0; k <= 8; k++) {
                    script(x, 2, (30000L + 1000 * w + k) * 100000 + 50000 + 1000 * w + (k + 1) % 5, NONE);
                    script(x, 2, (30000L + 1000 * w + k) * 100000 + 50000 + 1000 * w + k % 5, 1);
                }
            }
        });
        s.tell(24, "The command 3 fails if the method would throw an exception;", () -> {
            LilyWheels x = s.pond("Pw5430w3430");
            succeeds(x, 30000, 30004, 30008, 31000, 31008);
            fails(x, 30009, 31009, 32000, 32004, 32008, 39000, 39999, 30010, 30100, 30104);
        });
        s.tell(24, "commands with wheels, places, frogs or lines that do not exist fail,", () -> {
            LilyWheels none = new LilyWheels();
            fails(none, 10000, 20000, 20100, 30004, 40000, 50000, 70000, 80000, 80001, 90000);
            LilyWheels x = s.pond("Pw3430w4430l0010f001");
            succeeds(x, 10000, 20000, 30004, 40000, 50000, 70000, 71300, 80000, 90000);
            fails(x, 10010, 11000, 21000, 21100, 32004, 40030, 41000, 40200, 52000, 70300, 71400, 72000, 81000, 81001, 80011,
                91000);
        });
        s.tell(24, "ll and nn are decimal numbers.", () -> {
            LilyWheels x = s.pond("Pw3430w3430l0111l0111l0111l0010f001f011y029y129");
            succeeds(x, 10030, 80030, 80001, 81000);
            fails(x, 10300, 80300, 10130, 80131, 11030);
            // 9 are eaten by a hop, and 10 with the fly of the move 2.
            x.hop(0, -1);
            succeeds(x, 60009, 90009);
            fails(x, 60010, 90010, 60090);
            x.flies(0, 0, 9);
            x.hop(0, 1);
            s.due("eaten", x.about(5), 18);
            succeeds(x, 60018, 60010, 60009, 90018, 90001);
            fails(x, 60019, 60020, 60081, 60099, 90019, 90081);
        });
    }

    private void scriptQuestions() {
        s.tell(24, "4 f w p 0: succeeds if the frog f is at the place p of the wheel w.", () -> {
            LilyWheels x = s.pond("Pw5430w5430f041f131t14");
            succeeds(x, 40040, 41120);
            fails(x, 40041, 40030, 40000, 40140, 41130, 41020, 42040, 40240, 40050, 49040);
        });
        s.tell(24, "5 w 0 0 r: succeeds if the turn of the wheel w is r.", () -> {
            LilyWheels x = s.pond("Pw5430w5430w5430t14t22");
            succeeds(x, 50000, 51004, 52002);
            fails(x, 50001, 51003, 51005, 52001, 52003, 50010, 50100, 53000, 50005);
        });
        s.tell(24, "6 0 0 n n: succeeds if at least nn flies were eaten so far.", () -> {
            LilyWheels x = s.pond("Pw3430f001");
            succeeds(x, 60000);
            fails(x, 60001, 60010, 60099, 61000, 60100);
            for (int i = 0; i < 99; i++) {
                s.due("hop()", x.hop(0, 1), 0);
            }
            s.due("eaten", x.about(5), 99);
            succeeds(x, 60000, 60098, 60099);
            x.undo();
            succeeds(x, 60098);
            fails(x, 60099);
        });
        s.tell(24, "7 w p 0 n: succeeds if the pad at the place p of the wheel w has at least n flies.", () -> {
            LilyWheels x = s.pond("Pw5430w5430y045y129t11");
            for (int n = 0; n <= 9; n++) {
                script(x, 1, 70400 + n, n <= 5 ? NONE : 0);
                script(x, 1, 71300 + n, NONE);
                script(x, 1, 71200 + n, n == 0 ? NONE : 0);
            }
            fails(x, 70410, 70500, 72000, 79000);
        });
        s.tell(24, "8 f l l r: succeeds if why(f, ll) is r.", () -> {
            LilyWheels x = s.pond("Pw5430w5430l0010l0111l0212f001f021f121h0+h0-");
            x.set(1);
            succeeds(x, 80003, 80011, 81022, 82022, 81001);
            fails(x, 80000, 80001, 80002, 80004, 80009, 80010, 80012, 80013, 81020, 81021, 81023, 83001, 80031, 80101);
            x.set(0);
            succeeds(x, 80000);
            fails(x, 80003);
        });
        s.tell(24, "9 f 0 n n: succeeds if the frog f ate at least nn flies so far.", () -> {
            LilyWheels x = s.pond("Pw5430w5430f001f101f021");
            x.flies(0, 1, 7);
            x.hop(0, 1);
            succeeds(x, 90000, 90006, 90007, 91000, 92000);
            fails(x, 90008, 90017, 90107, 90900, 91001, 92001, 93000, 99000);
        });
    }

    private void scriptArguments() {
        s.tell(24, "n: number of commands, 1 to 3", () -> {
            LilyWheels x = new LilyWheels();
            script(x, 1, 60000L, NONE);
            script(x, 2, 6000060000L, NONE);
            script(x, 3, 600006000060000L, NONE);
            for (int n : Sentences.beyond(1, 3)) {
                s.refusedAnywhere("runScript(" + n + ", 60000)", BAD, y -> y.runScript(n, 60000));
            }
        });
        s.tell(24, "script: the commands, a number of at most 5 * n digits (0 or more)", () -> {
            LilyWheels x = new LilyWheels();
            long[] greatest = {99999L, 9999999999L, 999999999999999L};
            for (int n = 1; n <= 3; n++) {
                int its = n;
                long most = greatest[n - 1];
                script(x, n, most, 0);
                script(x, n, 0, 0);
                s.refusedAnywhere("one more, n " + n, BAD, y -> y.runScript(its, most + 1));
                s.refusedAnywhere("runScript(" + n + ", -1)", BAD, y -> y.runScript(its, -1));
            }
        });
        s.tell(24, "Throws IllegalArgumentException if n is out of range, or if script is negative or has more than 5 * n"
            + " digits", () -> {
                long[] scripts = {-1, -60000, Long.MIN_VALUE, Long.MIN_VALUE + 60000, Long.MAX_VALUE, 1000000000000000L,
                    1L << 32, (1L << 32) + 60000};
                for (long script : scripts) {
                    s.refusedAnywhere("runScript(1, " + script + ")", BAD, y -> y.runScript(1, script));
                }
                s.refusedAnywhere("runScript(0, 0)", BAD, y -> y.runScript(0, 0));
                s.refusedAnywhere("runScript(4, 0)", BAD, y -> y.runScript(4, 0));
                s.refusedAnywhere("runScript(0, -1)", BAD, y -> y.runScript(0, -1));
                s.refusedAnywhere("runScript(2, 10000000000)", BAD, y -> y.runScript(2, 10000000000L));
                s.refusedAnywhere("runScript(3, the greatest)", BAD, y -> y.runScript(3, Long.MAX_VALUE));
            });
    }

    private int simulated(Start start, long seed, int m) {
        LilyWheels x = start.make();
        int moves = x.about(3);
        int eaten = x.about(5);
        int got = x.simulate(seed, m);
        Turns.make(x, seed, m);
        int made = x.about(3) - moves;
        s.due(start + ": simulate(" + seed + ", " + m + ")", got, 1000 * made + x.about(5) - eaten);
        return got;
    }

    private void simulations() {
        s.tell(25, "Simulates m turns on a copy of the state.", () -> {
            for (int m = 1; m <= 60; m++) {
                for (Start start : Start.values()) {
                    simulated(start, 7046029254386353131L * m, m);
                }
            }
            // Behind a simulation the copy holds what the state has become.
            LilyWheels x = Start.FULL.make();
            int first = x.simulate(3, 60);
            s.due("again", x.simulate(3, 60), first);
            s.due("it did something", first > 1000);
        });
        s.tell(25, "seed: any long", () -> {
            long[] seeds = {0, 1, -1, Long.MIN_VALUE, Long.MAX_VALUE, 1L << 33, -(1L << 33), 6364136223846793005L,
                -1442695040888963407L, Integer.MIN_VALUE, Integer.MAX_VALUE};
            for (long seed : seeds) {
                for (Start start : Start.values()) {
                    simulated(start, seed, 1);
                    simulated(start, seed, 60);
                }
            }
        });
        s.tell(25, "m: number of turns, 1 to 60", () -> {
            int most = 0;
            for (long seed = 0; seed < 50; seed++) {
                LilyWheels x = Start.FULL.make();
                int one = x.simulate(seed, 1);
                int sixty = x.simulate(seed, 60);
                s.due("one turn makes one move at most", one < 2000);
                s.due("60 turns make as many at least", sixty >= one);
                most = Math.max(most, sixty / 1000);
                s.due("60 turns make 60 moves at most", sixty / 1000 <= 60);
            }
            s.due("many moves in 60 turns", most > 10);
        });
        s.tell(25, "A long x starts as the seed.", () -> {
            // The seeds for which r is 16 * 10 + 6 in the first turn: hop(0, 1); lower bits do not matter.
            for (long lower = 0; lower < 3; lower++) {
                s.due("hop(0, 1), and 3 flies and 1 that comes",
                    s.pond("Pw5430f001y013").simulate(Turns.seedFor(166, lower), 1), 1004);
            }
        });
        s.tell(25, "Each turn first replaces x by x * 6364136223846793005L + 1442695040888963407L (with long overflow), and"
            + " r = (int) (x >>> 33) is computed. q is r / 16.", () -> {
                // Worked out apart: for the seed 0, x is 1442695040888963407 then, r is 167951807, and q is
                // 10496987; for 1, r is 908834774; for 2, 1649717740; for -1, 1574552488.
                s.due("r % 16 is 15: leap(2, 3)", leaper(2, 3).simulate(0, 1), 1000);
                s.due("no other frog leaps", leaper(3, 3).simulate(0, 1), 0);
                s.due("nor along another line", leaper(2, 2).simulate(0, 1), 0);
                s.due("r % 16 is 6: hop(3, 1)", hopper(3, 1).simulate(1, 1), 1000);
                s.due("not hop(3, -1)", hopper(3, -1).simulate(1, 1), 0);
                s.due("r % 16 is 12: leap(3, 3)", leaper(3, 3).simulate(2, 1), 1000);
                s.due("r % 16 is 8: hop(0, 1)", hopper(0, 1).simulate(-1, 1), 1000);
                s.due("r is 500810664: hop(1, 1)", hopper(1, 1).simulate(Long.MAX_VALUE, 1), 1000);
                s.due("r is 1241693631: leap(1, 3)", leaper(1, 3).simulate(Long.MIN_VALUE, 1), 1000);
            });
        s.tell(25, "Returns 1000 * (the moves in the turns) + (the flies eaten in the turns, or 999 if there are more).", () -> {
            long hop = Turns.seedFor(166, 0);
            s.due("a move that eats none", s.pond("Pw5430w5430f001").simulate(hop, 1), 1000);
            s.due("a move that eats 9", s.pond("Pw5430w5430f001y019").simulate(hop, 1), 1009);
            s.due("another one eats the fly that comes", s.pond("Pw5430w5430f001f111y019").simulate(hop, 1), 1010);
            s.due("a move that cannot be made", s.pond("Pw5430f001f011").simulate(hop, 1), 0);
            // What was ahead of the turns does not count.
            LilyWheels x = s.pond("Pw5430w5430f001y019h0+h0-");
            s.due("moves and flies ahead of the turns", 100 * x.about(3) + x.about(5), 209);
            s.due("behind them", x.simulate(hop, 1), 1000);
            // The most that 60 turns could eat is 10 each, so that 999 is out of reach.
            for (long seed = 0; seed < 300; seed++) {
                int got = simulated(Start.FULL, seed, 60);
                s.due("no more than 10 flies a move", got % 1000 <= 10 * (got / 1000));
            }
        });
    }

    private static int r(int q, int kind) {
        return 16 * q + kind;
    }

    private void simulatedTurns() {
        s.tell(25, "6 to 9: hop(q % 5, 2 * (q / 8 % 2) - 1).", () -> {
            for (int kind = 6; kind <= 9; kind++) {
                for (int q = 0; q < 80; q++) {
                    int f = q % 5;
                    int side = q / 8 % 2 == 1 ? 1 : -1;
                    s.due("kind " + kind + ", q " + q, hopper(f, side).simulate(Turns.seedFor(r(q, kind), q), 1), 1000);
                    s.due("to the other side", hopper(f, -side).simulate(Turns.seedFor(r(q, kind), q), 1), 0);
                    s.due("another frog", hopper((f + 1) % 5, side).simulate(Turns.seedFor(r(q, kind), q), 1), 0);
                }
            }
        });
        s.tell(25, "Otherwise: leap(q % 5, q / 8 % 8).", () -> {
            for (int kind = 10; kind <= 15; kind++) {
                for (int q = 0; q < 320; q++) {
                    long seed = Turns.seedFor(r(q, kind), q);
                    s.due("kind " + kind + ", q " + q, leaper(q % 5, q / 8 % 8).simulate(seed, 1), 1000);
                    s.due("another line", leaper(q % 5, (q / 8 + 1) % 8).simulate(seed, 1), 0);
                    s.due("another frog", leaper((q + 1) % 5, q / 8 % 8).simulate(seed, 1), 0);
                }
            }
        });
        s.tell(25, "By r % 16: 0: wheel(3 + q % 3, q / 4 % 9 - 4, q / 64 % 31).", () -> {
            // The third wheel is made by the simulation; then hand-made turns go on with it.
            afterwards(0, new Random(1), "Pw5430w3430l0010f001f011f101f129y129");
        });
        s.tell(25, "By r % 16: 0: wheel(3 + q % 3, q / 4 % 9 - 4, q / 64 % 31).", () -> {
            // Seeds for which another divisor, another modulus or one more or less in any of the turns makes
            // another answer, as a search showed; these are PondModel's answers.
            int[][] known = {{1, 1000}, {4, 1000}, {5, 1000}, {6, 1000}, {7, 2000}, {8, 1000}, {11, 3002}, {16, 2000},
                {17, 2001}, {23, 3002}, {25, 3015}, {27, 2001}, {36, 1001}, {39, 6004}, {66, 1000}, {91, 1000}, {94, 1000},
                {135, 9005}, {205, 4002}, {616, 7003}, {730, 5003}, {978, 4000}};
            for (int[] it : known) {
                s.due("simulate(" + it[0] + ", 60)", new LilyWheels().simulate(it[0], 60), it[1]);
            }
        });
        s.tell(25, "1 and 2: line(q % 3, q / 4 % 5, q / 32 % 3, q / 128 % 5).", () -> {
            afterwards(1, new Random(2), "Pw3530w4630w5330f001f129f231f201");
            afterwards(2, new Random(3), "Pw3530w4630w5330f001f129f231f201");
        });
        s.tell(25, "3: frog(q % 3, q / 4 % 5, 1 + q / 32 % 9).", () ->
            afterwards(3, new Random(4), "Pw3509w4609w5309l0010l0111l1020l1321l2100l2402y019y119y239"));
        s.tell(25, "4: flies(q % 3, q / 4 % 5, 1 + q / 32 % 9).", () ->
            afterwards(4, new Random(5), "Pw3530w4630w5330l0010l0111l1220l1321l2100l2402f001f129f231f201"));
        s.tell(25, "5: turn(q % 3, q / 4 % 9 - 4).", () ->
            afterwards(5, new Random(6), "Pw3530w4630w5330l0010l0111l1220l1321l2100l2402f001f129f231f201"));
        s.tell(25, "What would throw an exception is left out.", () -> {
            LilyWheels none = new LilyWheels();
            for (int kind = 1; kind <= 15; kind++) {
                for (int q = 0; q < 40; q++) {
                    s.due("without wheels", none.simulate(Turns.seedFor(r(q, kind), 0), 1), 0);
                }
            }
            for (int seed = 0; seed < 200; seed++) {
                simulated(Start.EMPTY, seed, 60);
                simulated(Start.FULL, seed, 60);
            }
        });
        s.tell(25, "Throws IllegalArgumentException if m is out of range", () -> {
            for (int m : Sentences.beyond(1, 60)) {
                s.refusedAnywhere("simulate(0, " + m + ")", BAD, x -> x.simulate(0, m));
                s.refusedAnywhere("simulate(the least, " + m + ")", BAD, x -> x.simulate(Long.MIN_VALUE, m));
            }
        });
    }

    /** Five frogs: f can hop to this side alone, one more to the other side alone, and the three others not at all. */
    private static LilyWheels hopper(int f, int side) {
        LilyWheels x = new LilyWheels();
        for (int w = 0; w < 3; w++) {
            x.wheel(3, 0, 0);
        }
        int seat = 0;
        for (int i = 0; i < 5; i++) {
            if (i == f) {
                x.frog(0, 0, 1);
            } else if (i == (f + 1) % 5) {
                x.frog(0, side == 1 ? 2 : 1, 1);
            } else {
                x.frog(2, seat, 1);
                seat++;
            }
        }
        return x;
    }

    /** Five frogs; only f is at the line l, and at no other one. */
    private static LilyWheels leaper(int f, int l) {
        LilyWheels x = new LilyWheels();
        x.wheel(5, 0, 0);
        x.wheel(5, 0, 0);
        for (int i = 0; i < 5; i++) {
            x.frog(0, (5 + i - f) % 5, 1);
        }
        for (int i = 0; i < 8; i++) {
            x.line(1, 0, 0, i == l ? 0 : 1);
        }
        return x;
    }

    /** Simulations of 60 turns whose first one is of this kind, with each q that its divisors tell apart. */
    private void afterwards(int kind, Random random, String text) {
        int moves = 0;
        for (int q = 0; q < 2000; q++) {
            long seed = Turns.seedFor(r(q, kind), random.nextLong() >>> 31);
            LilyWheels x = new LilyWheels();
            Start.write(x, text);
            x.load();
            int eaten = x.about(5);
            int got = x.simulate(seed, 40);
            Turns.make(x, seed, 40);
            moves += x.about(3);
            s.due("kind " + kind + ", q " + q, got, 1000 * x.about(3) + x.about(5) - eaten);
        }
        s.due("moves were made", moves > 2000);
    }
}
