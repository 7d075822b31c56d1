/** Ponds from which tests start; make() makes the same one anew each time, in under 250 calls. */
enum Start {
    /** Nothing there yet. */
    EMPTY,
    /** Two of most things, room for more of each, and one save slot in use. */
    SOME,
    /** Everything full: wheels, lines, frogs, flies, the text, what is remembered, the save slots. */
    FULL;

    private static final String SOME_TEXT = "Pw3830f022";
    private static final String FULL_TEXT = "Pw5830w4030w3430l0011l0313l1022f003f137f229y019y119"
        + "h0+h0-j00t14h1+h1-t01h0+h0-j00t14h1+h1-t01h0+h0-j00t14h1+h1-t01h2+h2-";

    LilyWheels make() {
        LilyWheels x = new LilyWheels();
        if (this == SOME) {
            fillSome(x);
        }
        if (this == FULL) {
            fillAll(x);
        }
        return x;
    }

    static void write(LilyWheels x, String text) {
        x.clearText();
        for (int i = 0; i < text.length(); i++) {
            x.append(text.charAt(i));
        }
    }

    /** Frog 0 has leapt to (1, 1), frog 1 sits at (1, 0); one move, setting 0 is 1, slot 0 is full. */
    private static void fillSome(LilyWheels x) {
        write(x, SOME_TEXT);
        x.wheel(5, 2, 8);
        x.wheel(3, -1, 20);
        x.line(0, 0, 1, 1);
        x.line(1, 2, 0, 3);
        x.frog(0, 0, 3);
        x.frog(1, 0, 7);
        x.flies(1, 1, 4);
        x.flies(0, 4, 8);
        x.save(0);
        x.leap(0, 0);
        x.set(1);
    }

    private static void fillAll(LilyWheels x) {
        write(x, FULL_TEXT);
        x.wheel(5, 2, 8);
        x.wheel(4, -1, 20);
        x.wheel(3, 1, 0);
        int[][] lines = {{0, 0, 1, 1}, {0, 3, 1, 3}, {1, 0, 2, 2}, {2, 0, 0, 4}, {0, 1, 2, 1}, {1, 2, 0, 2},
            {0, 0, 1, 1}, {1, 1, 0, 0}};
        for (int[] l : lines) {
            x.line(l[0], l[1], l[2], l[3]);
        }
        int[][] frogs = {{0, 0, 3}, {1, 3, 7}, {2, 2, 9}, {0, 4, 1}, {2, 0, 5}};
        for (int[] f : frogs) {
            x.frog(f[0], f[1], f[2]);
        }
        x.save(0);
        for (int w = 0; w < 3; w++) {
            for (int p = 0; p < 5 - w; p++) {
                x.flies(w, p, 9);
            }
        }
        x.leap(0, 0);
        x.save(1);
        x.hop(3, 1);
        x.turn(0, 3);
        x.set(1);
        x.leap(2, 2);
        x.hop(0, 1);
        for (int w = 0; w < 3; w++) {
            for (int p = 0; p < 5 - w; p++) {
                x.flies(w, p, 9);
            }
        }
    }
}
