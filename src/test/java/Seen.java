/** All that can be seen of an object by calls that change nothing, as one text. */
final class Seen {
    private Seen() {
    }

    static String of(LilyWheels x) {
        StringBuilder s = new StringBuilder();
        for (int what = 0; what <= 10; what++) {
            s.append(x.about(what)).append(' ');
        }
        for (int w = 0; w < x.about(0); w++) {
            for (int what = 0; what <= 7; what++) {
                s.append(x.wheelOf(w, what)).append(' ');
            }
            for (int p = 0; p < x.wheelOf(w, 0); p++) {
                for (int what = 0; what <= 3; what++) {
                    s.append(x.placeOf(w, p, what)).append(' ');
                }
            }
        }
        for (int l = 0; l < x.about(1); l++) {
            for (int what = 0; what <= 3; what++) {
                s.append(x.lineOf(l, what)).append(' ');
            }
        }
        for (int f = 0; f < x.about(2); f++) {
            for (int what = 0; what <= 5; what++) {
                s.append(x.frogOf(f, what)).append(' ');
            }
        }
        return s.append(x.errorPosition()).toString();
    }
}
