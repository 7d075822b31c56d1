/** The turns of simulate(), made by the methods themselves. */
final class Turns {
    private static final long FACTOR = 6364136223846793005L;
    private static final long MORE = 1442695040888963407L;

    private Turns() {
    }

    static void make(LilyWheels x, long seed, int m) {
        long s = seed;
        for (int i = 0; i < m; i++) {
            s = s * FACTOR + MORE;
            int r = (int) (s >>> 33);
            try {
                one(x, r / 16, r % 16);
            } catch (IndexOutOfBoundsException | IllegalArgumentException | IllegalStateException e) {
                continue;
            }
        }
    }

    private static void one(LilyWheels x, int q, int kind) {
        switch (kind) {
            case 0: x.wheel(3 + q % 3, q / 4 % 9 - 4, q / 64 % 31); break;
            case 1: case 2: x.line(q % 3, q / 4 % 5, q / 32 % 3, q / 128 % 5); break;
            case 3: x.frog(q % 3, q / 4 % 5, 1 + q / 32 % 9); break;
            case 4: x.flies(q % 3, q / 4 % 5, 1 + q / 32 % 9); break;
            case 5: x.turn(q % 3, q / 4 % 9 - 4); break;
            case 6: case 7: case 8: case 9: x.hop(q % 5, 2 * (q / 8 % 2) - 1); break;
            default: x.leap(q % 5, q / 8 % 8); break;
        }
    }

    /** A seed whose first turn has this r; the lower bits of x may be chosen, too. */
    static long seedFor(int r, long lower) {
        long x = (long) r << 33 | lower;
        return (x - MORE) * inverse(FACTOR);
    }

    /** The number that gives 1 when an odd one is multiplied by it; each round doubles the bits that are right. */
    private static long inverse(long odd) {
        long inverse = odd;
        for (int i = 0; i < 6; i++) {
            inverse *= 2 - odd * inverse;
        }
        return inverse;
    }
}
