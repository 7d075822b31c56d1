/** The sentences on texts, and promises 1 to 5. */
final class TextEdges {
    private static final int NONE = Sentences.NONE;
    private static final Class<IndexOutOfBoundsException> NO_SUCH = Sentences.NO_SUCH;
    private static final Class<IllegalArgumentException> BAD = Sentences.BAD;
    private static final Class<IllegalStateException> STATE = Sentences.STATE;

    private final Sentences s;

    private TextEdges(Sentences s) {
        this.s = s;
    }

    static void tell(Sentences s) {
        TextEdges it = new TextEdges(s);
        it.buffer();
        it.commands();
        it.digits();
        it.leftOut();
        it.order();
        it.errors();
        it.newObject();
        it.append();
        it.clearText();
        it.errorPosition();
        it.load();
        it.loadForgets();
    }

    private static LilyWheels text(String text) {
        LilyWheels x = new LilyWheels();
        Start.write(x, text);
        return x;
    }

    private void error(String text, int want) {
        s.due("errorPosition() of " + text, text(text).errorPosition(), want);
    }

    private static String repeat(String piece, int times) {
        StringBuilder all = new StringBuilder();
        for (int i = 0; i < times; i++) {
            all.append(piece);
        }
        return all.toString();
    }

    private void buffer() {
        s.tell(Sentences.TERMS, "The object has a text buffer of at most 120 characters.", () -> {
            LilyWheels x = new LilyWheels();
            for (int i = 1; i <= 120; i++) {
                s.due("append()", x.append('P'), i);
            }
            s.refused(x, "the character 121", STATE, y -> y.append('P'));
            s.due("clearText()", x.clearText(), 120);
            s.due("the start FULL has as many", Start.FULL.make().clearText(), 120);
        });
        s.tell(Sentences.TERMS, "A pond as a text is the letter P, and then any number of commands;", () -> {
            error("P", NONE);
            for (int n = 0; n <= 39; n++) {
                error("P" + repeat("t01", n), NONE);
            }
            error("Pw5430" + repeat("h0+", 38), NONE);
            s.due("its length", text("Pw5430" + repeat("h0+", 38)).clearText(), 120);
            error("", 0);
            error("t01", 0);
            error("p", 0);
            error("O", 0);
            error("Q", 0);
            error("PP", 1);
        });
    }

    private void commands() {
        s.tell(Sentences.TERMS, "w, a digit for n (3 to 5), one for a notch (0 to 8), and two for a strength (00 to 30):"
            + " wheel(), with the notch that is 4 less;", () -> {
                int[][] wheels = {{3, 0, 0}, {4, 4, 9}, {5, 8, 10}, {3, 3, 19}, {4, 5, 20}, {5, 1, 29}, {3, 7, 30}};
                for (int[] w : wheels) {
                    LilyWheels x = s.pond("Pw" + w[0] + w[1] + w[2] / 10 + w[2] % 10);
                    s.due("places", x.wheelOf(0, 0), w[0]);
                    s.due("notch", x.wheelOf(0, 1), w[1] - 4);
                    s.due("strength", x.wheelOf(0, 2), w[2]);
                }
            });
        s.tell(Sentences.TERMS, "l, a wheel, a place, a wheel, and a place: line();", () -> {
            LilyWheels x = s.pond("Pw5430w5430w5430l0024l2410l1300");
            int[][] lines = {{0, 0, 2, 4}, {2, 4, 1, 0}, {1, 3, 0, 0}};
            for (int l = 0; l < 3; l++) {
                for (int what = 0; what < 4; what++) {
                    s.due("lineOf(" + l + ", " + what + ")", x.lineOf(l, what), lines[l][what]);
                }
            }
        });
        s.tell(Sentences.TERMS, "f, a wheel, a place, and a digit for a weight (1 to 9): frog();", () -> {
            LilyWheels x = s.pond("Pw5430w5430w5430f001f249f125");
            int[][] frogs = {{1, 0, 0}, {9, 2, 4}, {5, 1, 2}};
            for (int f = 0; f < 3; f++) {
                for (int what = 0; what < 3; what++) {
                    s.due("frogOf(" + f + ", " + what + ")", x.frogOf(f, what), frogs[f][what]);
                }
            }
        });
        s.tell(Sentences.TERMS, "y, a wheel, a place, and a digit (1 to 9): flies();", () -> {
            LilyWheels x = s.pond("Pw5430w5430w5430y001y249y125");
            s.due("flies", 100 * x.placeOf(0, 0, 1) + 10 * x.placeOf(1, 2, 1) + x.placeOf(2, 4, 1), 159);
            s.due("all", x.about(4), 15);
        });
        s.tell(Sentences.TERMS, "j, a frog, and a digit for a line (0 to 7): leap();", () -> {
            LilyWheels x = s.pond("Pw5430w5430l0011l0010l0010l0010l0010l0010l0010l0012f001f041j07j07j00");
            s.due("its place", 10 * x.frogOf(0, 1) + x.frogOf(0, 3), 11);
            s.due("moves", x.about(3), 3);
            LilyWheels y = s.pond("Pw5430w5430l0411f001f011f021f031f041j40");
            s.due("frog 4", 10 * y.frogOf(4, 1) + y.frogOf(4, 3), 11);
        });
        s.tell(Sentences.TERMS, "h, a frog, and + or - for the side 1 or -1: hop();", () -> {
            s.due("+", s.pond("Pw5430f001h0+").frogOf(0, 3), 1);
            s.due("-", s.pond("Pw5430f001h0-").frogOf(0, 3), 4);
            LilyWheels y = s.pond("Pw5430w3430f001f011f021f031f101h4-");
            s.due("frog 4", y.frogOf(4, 3), 2);
        });
        s.tell(Sentences.TERMS, "t, a wheel, and a digit (1 to 4): turn().", () -> {
            LilyWheels x = s.pond("Pw5430w5430w5430t01t14t22");
            s.due("turns", 100 * x.wheelOf(0, 3) + 10 * x.wheelOf(1, 3) + x.wheelOf(2, 3), 142);
        });
        s.tell(Sentences.TERMS, "a wheel is a digit (0 to 2), a place a digit (0 to 4), a frog a digit (0 to 4):", () -> {
            for (String head : new String[] {"l", "l00", "f", "y", "t"}) {
                digit(head, "0", "2", head.length() + 1);
            }
            for (String head : new String[] {"l0", "l001", "f0", "y0", "j", "h"}) {
                digit(head, "0", "4", head.length() + 1);
            }
        });
    }

    /** The characters from the first to the last one are allowed behind a head, their neighbours are not. */
    private void digit(String head, String first, String last, int at) {
        int end = at + 1;
        boolean ends = text("P" + head + first).errorPosition() == NONE;
        error("P" + head + first, ends ? NONE : end);
        error("P" + head + last, ends ? NONE : end);
        error("P" + head + (char) (first.charAt(0) - 1), at);
        error("P" + head + (char) (last.charAt(0) + 1), at);
        for (int c : new int[] {0, 32, '/', ':', 'P', 255}) {
            error("P" + head + (char) c, at);
        }
    }

    private void digits() {
        s.tell(Sentences.TERMS, "(a digit is not allowed if no number that is allowed begins with it and those before it)",
            () -> {
                // -1 and 10 stand for the characters beside the digits, / and :.
                for (int a = -1; a <= 10; a++) {
                    char c = (char) ('0' + a);
                    for (int b = -1; b <= 10; b++) {
                        boolean fits = a < 3 ? b >= 0 && b <= 9 : b == 0;
                        error("Pw54" + c + (char) ('0' + b), a < 0 || a > 3 ? 4 : fits ? NONE : 5);
                    }
                    error("Pw54" + c, a < 0 || a > 3 ? 4 : 5);
                    error("Pw" + c, a < 3 || a > 5 ? 2 : 3);
                    error("Pw5" + c, a < 0 || a > 8 ? 3 : 4);
                    boolean wheel = a >= 0 && a <= 2;
                    boolean fifth = a >= 0 && a <= 4;
                    boolean some = a >= 1 && a <= 9;
                    error("Pl" + c, wheel ? 3 : 2);
                    error("Pl0" + c, fifth ? 4 : 3);
                    error("Pl00" + c, wheel ? 5 : 4);
                    error("Pl001" + c, fifth ? NONE : 5);
                    error("Pf" + c, wheel ? 3 : 2);
                    error("Pf0" + c, fifth ? 4 : 3);
                    error("Pf00" + c, some ? NONE : 4);
                    error("Py" + c, wheel ? 3 : 2);
                    error("Py0" + c, fifth ? 4 : 3);
                    error("Py00" + c, some ? NONE : 4);
                    error("Pj" + c, fifth ? 3 : 2);
                    error("Pj0" + c, a >= 0 && a <= 7 ? NONE : 3);
                    error("Ph" + c, fifth ? 3 : 2);
                    error("Ph0" + c, 3);
                    error("Pt" + c, wheel ? 3 : 2);
                    error("Pt0" + c, a >= 1 && a <= 4 ? NONE : 3);
                }
                // The strength 30 is told by its own two digits, not by what stands ahead of them.
                error("Pw3309", NONE);
                error("Pw5329", NONE);
                error("Pw5830", NONE);
            });
        s.tell(Sentences.TERMS, "There are no blanks.", () -> {
            String text = "w5430l0011f001y011j00h0+t01";
            for (int i = 0; i <= text.length(); i++) {
                error("P" + text.substring(0, i) + " " + text.substring(i), i + 1);
            }
            error(" P", 0);
        });
    }

    private void leftOut(String commands, int want) {
        LilyWheels x = text(commands);
        s.due("load() of " + commands, x.load(), want);
    }

    private void leftOut() {
        s.tell(Sentences.TERMS, "Commands that would throw an exception, and moves that cannot be made, are left out.", () -> {
            leftOut("Pw5430w5430w5430", 0);
            leftOut("Pw5430w5430w5430w5430", 1);
            leftOut("Pl0010", 1);
            leftOut("Pw3430l0010", 1);
            leftOut("Pw3430w4430l0210", 0);
            leftOut("Pw3430w4430l0310", 1);
            leftOut("Pw3430w4430l0013", 0);
            leftOut("Pw3430w4430l0014", 1);
            leftOut("Pw3430w4430l0001l1110", 2);
            leftOut("Pw3430w3430" + repeat("l0010", 8), 0);
            leftOut("Pw3430w3430" + repeat("l0010", 9), 1);
            leftOut("Pf001", 1);
            leftOut("Pw3430f021", 0);
            leftOut("Pw3430f031", 1);
            leftOut("Pw3430f021f021", 1);
            leftOut("Pw5430f001f011f021f031f041", 0);
            leftOut("Pw5430w3430f001f011f021f031f041f101", 1);
            leftOut("Py001", 1);
            leftOut("Pw3430y021", 0);
            leftOut("Pw3430y031", 1);
            leftOut("Pw3430y029y029", 0);
            leftOut("Pj00", 1);
            leftOut("Pw3430f001j00", 1);
            leftOut("Pw3430w3430l0010j00", 1);
            leftOut("Pw3430w3430l0010f001j00", 0);
            leftOut("Pw3430w3430l0010f001j01", 1);
            leftOut("Pw3430w3430l0010f001j10", 1);
            leftOut("Pw3430w3430l0010f011j00", 1);
            leftOut("Pw3430w3430l0010f001f101j00", 1);
            leftOut("Ph0+", 1);
            leftOut("Pw3430f001h0+h0-", 0);
            leftOut("Pw3430f001h1+h1-", 2);
            leftOut("Pw3430f001f011h0+", 1);
            leftOut("Pw3430f001f011h0-", 0);
            leftOut("Pt01", 1);
            leftOut("Pw3430t04", 0);
            leftOut("Pw3430t11", 1);
            leftOut("P" + repeat("t01", 39), 39);
        });
        s.tell(Sentences.TERMS, "Commands that would throw an exception, and moves that cannot be made, are left out.", () -> {
            LilyWheels x = text("Pw3430f031h0+f001l0010h1+j00y031t11t01");
            s.due("load()", x.load(), 7);
            s.due("the turn", x.wheelOf(0, 3), 1);
            s.due("frogs", x.about(2), 1);
            s.due("moves", x.about(3), 0);
            s.due("flies", x.about(7), 0);
            s.due("lines", x.about(1), 0);
        });
    }

    private void order() {
        s.tell(Sentences.TERMS, "The text is read from left to right.", () -> {
            leftOut("Pw5430f001", 0);
            leftOut("Pf001w5430", 1);
            leftOut("Pw5430f001h0+f001", 0);
            leftOut("Pw5430f001f001h0+", 1);
            s.due("first a turn, then a frog", s.pond("Pw5430t01f001").frogOf(0, 2), 4);
            s.due("first a frog, then a turn", s.pond("Pw5430f001t01").frogOf(0, 2), 0);
            error("Px?", 1);
            error("Pw9x", 2);
            s.due("the wheels in their order", s.pond("Pw3430w5430w4430").wheelOf(1, 0), 5);
        });
    }

    private void errors() {
        s.tell(Sentences.TERMS, "The error position is the index of the first character that these rules do not allow at its"
            + " place", () -> {
                for (String letter : new String[] {"w", "l", "f", "y", "j", "h", "t"}) {
                    error("P" + letter, 2);
                    error("P" + (char) (letter.charAt(0) - 32), 1);
                }
                for (int c = 0; c <= 255; c++) {
                    boolean begins = "wlfyjht".indexOf(c) >= 0;
                    error("Pt01" + (char) c, begins ? 5 : 4);
                }
                error("Ph0+h0*", 6);
                error("Ph0,", 3);
                error("Ph0.", 3);
                // The last character of a full text.
                error("Pw5430" + repeat("h0+", 37) + "h0x", 119);
                error("P" + repeat("h0+", 39) + "xx", 118);
                error("P" + repeat("h0+", 39) + "hx", 119);
            });
        s.tell(Sentences.TERMS, "if the text ends too soon, it is the length of the text.", () -> {
            error("", 0);
            for (String command : new String[] {"w5430", "l0011", "f001", "y001", "j00", "h0+", "t01"}) {
                for (int n = 1; n <= command.length(); n++) {
                    boolean whole = n == command.length();
                    error("P" + command.substring(0, n), whole ? NONE : n + 1);
                    error("Pt01" + command.substring(0, n), whole ? NONE : n + 4);
                }
            }
            error("P" + repeat("h0+", 39) + "h", 119);
            error("P" + repeat("h0+", 39) + "h0", 120);
        });
    }

    private void newObject() {
        s.tell(1, "Creates a pond without wheels.", () -> {
            LilyWheels x = new LilyWheels();
            for (int what = 0; what <= 10; what++) {
                s.due("about(" + what + ")", x.about(what), what == 8 ? NONE : 0);
            }
            Start e = Start.EMPTY;
            s.refused(e, "wheelOf(0, 0)", NO_SUCH, y -> y.wheelOf(0, 0));
            s.refused(e, "placeOf(0, 0, 0)", NO_SUCH, y -> y.placeOf(0, 0, 0));
            s.refused(e, "frogOf(0, 0)", NO_SUCH, y -> y.frogOf(0, 0));
            s.refused(e, "lineOf(0, 0)", NO_SUCH, y -> y.lineOf(0, 0));
            s.refused(e, "line(0, 0, 1, 0)", NO_SUCH, y -> y.line(0, 0, 1, 0));
            s.refused(e, "frog(0, 0, 1)", NO_SUCH, y -> y.frog(0, 0, 1));
            s.refused(e, "flies(0, 0, 1)", NO_SUCH, y -> y.flies(0, 0, 1));
            s.refused(e, "leap(0, 0)", NO_SUCH, y -> y.leap(0, 0));
            s.refused(e, "hop(0, 1)", NO_SUCH, y -> y.hop(0, 1));
            s.refused(e, "turn(0, 1)", NO_SUCH, y -> y.turn(0, 1));
            s.refused(e, "why(0, 0)", NO_SUCH, y -> y.why(0, 0));
            s.refused(e, "fewest(0, 0, 0, 0)", NO_SUCH, y -> y.fewest(0, 0, 0, 0));
            s.refused(e, "couldBe(0, 0)", NO_SUCH, y -> y.couldBe(0, 0));
            s.refused(e, "mostFlies(0, 1)", NO_SUCH, y -> y.mostFlies(0, 1));
            s.refused(e, "undo()", STATE, LilyWheels::undo);
            s.refused(e, "load()", STATE, LilyWheels::load);
            s.refused(e, "restore(0)", STATE, y -> y.restore(0));
            s.refused(e, "restore(1)", STATE, y -> y.restore(1));
            s.due("errorPosition()", x.errorPosition(), 0);
            s.due("runScript(1, 0)", x.runScript(1, 0), 0);
            s.due("simulate(0, 1)", x.simulate(0, 1), 0);
            s.due("save(0)", x.save(0), 0);
            s.due("restore(0)", x.restore(0), 0);
            s.due("clearText()", x.clearText(), 0);
        });
        s.tell(1, "Creates a pond without wheels.", () -> {
            LilyWheels full = Start.FULL.make();
            LilyWheels x = new LilyWheels();
            x.wheel(3, 0, 0);
            s.due("the other object's wheels", full.wheelOf(0, 0), 5);
            s.due("the new one's", x.about(0), 1);
        });
    }

    private void append() {
        s.tell(2, "Appends a character to the text buffer.", () -> {
            LilyWheels x = text("Pt0");
            s.due("ahead of it", x.errorPosition(), 3);
            x.append('1');
            s.due("behind it", x.errorPosition(), NONE);
            x.append('1');
            s.due("behind one more", x.errorPosition(), 4);
        });
        s.tell(2, "c: character code, 0 to 255", () -> {
            for (int c = 0; c <= 255; c++) {
                LilyWheels x = new LilyWheels();
                s.due("append(" + c + ")", x.append(c), 1);
                s.due("errorPosition()", x.errorPosition(), c == 'P' ? NONE : 0);
            }
        });
        s.tell(2, "Returns the new length of the text.", () -> {
            LilyWheels x = new LilyWheels();
            for (int i = 1; i <= 120; i++) {
                s.due("append()", x.append(i), i);
            }
            x.clearText();
            s.due("behind clearText()", x.append(0), 1);
        });
        s.tell(2, "Throws IllegalArgumentException if c is out of range", () -> {
            for (int c : Sentences.beyond(0, 255)) {
                s.refusedAnywhere("append(" + c + ")", BAD, x -> x.append(c));
            }
            s.refused(Start.SOME, "append('P' + 256)", BAD, x -> x.append('P' + 256));
        });
        s.tell(2, "Throws IllegalStateException if the text already has 120 characters", () -> {
            for (int c = 0; c <= 255; c += 85) {
                int its = c;
                s.refused(Start.FULL, "append(" + c + ")", STATE, x -> x.append(its));
            }
            LilyWheels x = new LilyWheels();
            for (int i = 0; i < 119; i++) {
                x.append('P');
            }
            s.due("append() behind 119", x.append('P'), 120);
            s.refused(x, "append() behind 120", STATE, y -> y.append('P'));
            s.refused(x, "append(256) behind 120: the argument comes first", BAD, y -> y.append(256));
            s.refused(x, "append(-1) behind 120: the argument comes first", BAD, y -> y.append(-1));
        });
    }

    private void clearText() {
        s.tell(3, "Empties the text buffer.", () -> {
            LilyWheels x = Start.FULL.make();
            String before = Seen.of(x);
            s.due("it is a pond", x.errorPosition(), NONE);
            x.clearText();
            s.due("errorPosition()", x.errorPosition(), 0);
            s.refused(x, "load()", STATE, LilyWheels::load);
            for (int i = 1; i <= 120; i++) {
                s.due("append()", x.append('t'), i);
            }
            x.clearText();
            Start.write(x, "P");
            s.same("nothing else has changed", Seen.of(x), before);
            s.due("nor is it an action", x.undo(), 13);
        });
        s.tell(3, "Returns the previous length of the text.", () -> {
            for (int n = 0; n <= 120; n += n < 118 ? 59 : 1) {
                LilyWheels x = text(repeat("P", n));
                s.due("clearText() of " + n, x.clearText(), n);
                s.due("clearText() again", x.clearText(), 0);
            }
        });
    }

    private void errorPosition() {
        s.tell(4, "Checks the text.", () -> {
            for (Start start : Start.values()) {
                s.harmless(start, "errorPosition()", LilyWheels::errorPosition);
            }
            LilyWheels x = text("Pw5430l0011");
            s.due("errorPosition(): it does not matter whether the wheels are there", x.errorPosition(), NONE);
        });
        s.tell(4, "Returns the error position of the text; NONE if it is a pond.", () -> {
            error("", 0);
            error("P", NONE);
            error("Px", 1);
            error("Pt", 2);
            error("Pt01", NONE);
            s.due("of 120 characters", Start.FULL.make().errorPosition(), NONE);
            // What a longer text left behind its end does not count.
            LilyWheels x = text("Pt01t01");
            Start.write(x, "Pt01t");
            s.due("errorPosition() of a shorter text", x.errorPosition(), 5);
        });
    }

    private void load() {
        s.tell(5, "Makes everything as in a new object, and then does the commands of the text.", () -> {
            String[] texts = {"P", "Pw3430", "Pw5430w4430w3430f009f101l0011l1020", "Pw4530w3530l0010f001j00",
                "Pw5430f001y025", "Pw5530w4530f001f101t12"};
            for (String text : texts) {
                LilyWheels fresh = s.pond(text);
                String want = Seen.of(fresh) + thought(fresh);
                for (Start start : Start.values()) {
                    LilyWheels x = start.make();
                    for (int w = 0; w < x.about(0); w++) {
                        x.turn(w, 1 - x.wheelOf(w, 3));
                    }
                    Start.write(x, text);
                    s.due(start + ": load() of " + text, x.load(), 0);
                    s.same(start + ": as loaded into a new object", Seen.of(x) + thought(x), want);
                }
            }
            LilyWheels x = Start.FULL.make();
            Start.write(x, "P");
            x.load();
            s.same("without commands, as a new object", Seen.of(x), Seen.of(text("P")));
            s.due("setting 0", x.about(9), 0);
            s.due("the moves", x.about(3), 0);
            s.due("the latest frog", x.about(8), NONE);
            // What stood in a wheel, a frog or a line of the same number does not come back.
            x.wheel(5, 0, 0);
            x.wheel(4, 0, 0);
            x.frog(0, 4, 1);
            s.due("flies", x.about(4), 0);
            s.due("its turn", x.wheelOf(0, 3) + x.wheelOf(0, 7) + x.wheelOf(1, 3) + x.wheelOf(1, 7), 0);
            s.due("what the frog ate, and its moves", x.frogOf(0, 4) + x.frogOf(0, 5), 0);
        });
        s.tell(5, "Keeps the text, also if it throws the exception.", () -> {
            LilyWheels x = text("Pw3430f001");
            s.due("load()", x.load(), 0);
            s.due("load() again", x.load(), 0);
            s.due("frogs", x.about(2), 1);
            s.due("clearText()", x.clearText(), 10);
            Start.write(x, "Pw3430f00");
            s.refused(x, "load()", STATE, LilyWheels::load);
            x.append('1');
            s.due("load() of what has been kept and one more", x.load(), 0);
            s.due("clearText()", x.clearText(), 10);
        });
        s.tell(5, "Returns the number of commands that are left out.", () -> {
            leftOut("P", 0);
            leftOut("Pt01", 1);
            leftOut("Pw3430t01t11", 1);
            leftOut("P" + repeat("h0+", 39), 39);
            LilyWheels x = Start.FULL.make();
            Start.write(x, "Pf001");
            s.due("what was there ahead of load() does not count", x.load(), 1);
        });
        s.tell(5, "Throws IllegalStateException if the text is not a pond", () -> {
            s.refused(Start.EMPTY, "load() of an empty text", STATE, LilyWheels::load);
            for (String text : new String[] {"", "p", "w5430", "PP", "Pw", "Pw5431", "Pt00", "Pt01 ", "Pt01t0"}) {
                LilyWheels x = Start.SOME.make();
                Start.write(x, text);
                s.refused(x, "load() of " + text, STATE, LilyWheels::load);
                s.due("undo(): it is still remembered", x.undo(), 9);
                s.due("restore(0): it is still saved", x.restore(0), 0);
            }
        });
    }

    /** What would be, of the first frog. */
    private static String thought(LilyWheels x) {
        StringBuilder all = new StringBuilder();
        for (int w = 0; w < x.about(0) && x.about(2) > 0; w++) {
            for (int p = 0; p < x.wheelOf(w, 0); p++) {
                all.append(' ').append(x.fewest(0, w, p, 0)).append(' ').append(x.fewest(0, w, p, 1));
            }
            all.append(' ').append(x.couldBe(0, w)).append(' ').append(x.mostFlies(0, 4));
        }
        return all.append(' ').append(x.simulate(17, 60)).toString();
    }

    private void loadForgets() {
        s.tell(5, "Behind it no state is remembered, and both save slots are empty.", () -> {
            for (Start start : Start.values()) {
                LilyWheels x = start.make();
                x.save(0);
                x.save(1);
                x.set(1);
                Start.write(x, "Pw3430f001h0+t01");
                s.due("load()", x.load(), 0);
                s.refused(x, "undo()", STATE, LilyWheels::undo);
                s.refused(x, "restore(0)", STATE, y -> y.restore(0));
                s.refused(x, "restore(1)", STATE, y -> y.restore(1));
                x.turn(0, 1);
                s.due("undo() of what is done then", x.undo(), 0);
                s.refused(x, "undo()", STATE, LilyWheels::undo);
                s.due("save(1)", x.save(1), 1);
                s.refused(x, "restore(0), when only slot 1 is full", STATE, y -> y.restore(0));
                s.due("restore(1)", x.restore(1), 1);
            }
        });
    }
}
