import java.util.Arrays;

/**
 * Frogs on wheels of lily pads that turn a notch when they are left.
 *
 * A spot is a place of a wheel as one number: the wheel * 5 + the place. A pad
 * of a wheel is numbered likewise where it stands in a row with all others.
 */
public final class LilyWheels {
    public static final int NONE = -1;

    private static final int MOST_WHEELS = 3;
    private static final int MOST_PLACES = 5;
    private static final int MOST_LINES = 8;
    private static final int MOST_FROGS = 5;
    private static final int MOST_FLIES = 9;
    private static final int MOST_SIGNS = 120;
    private static final int MOST_REMEMBERED = 14;
    private static final int SLOTS = 2;
    private static final int SPOTS = MOST_WHEELS * MOST_PLACES;

    // What is wrong with a call; the face throws what belongs to it, while
    // texts and simulations only leave the call out.
    private static final int FINE = 0;
    private static final int NO_SUCH = 1;
    private static final int BAD_ARGUMENT = 2;
    private static final int BAD_STATE = 3;

    // Why a frog cannot go; 0 if it can.
    private static final int CAN_GO = 0;
    private static final int NOT_AT_LINE = 1;
    private static final int PAD_TAKEN = 2;
    private static final int MOVED_LATEST = 3;

    private final Text text = new Text();
    private final Pond pond = new Pond();
    private final Pond trial = new Pond();
    private final History history = new History();
    private final Slots slots = new Slots();
    private final Search search = new Search();

    public LilyWheels() {
    }

    // ---- text

    public int append(int c) throws IllegalArgumentException, IllegalStateException {
        refuse(text.faultOfSign(c));
        return text.add(c);
    }

    public int clearText() {
        return text.empty();
    }

    public int errorPosition() {
        return text.firstError();
    }

    public int load() throws IllegalStateException {
        refuse(text.firstError() == NONE ? FINE : BAD_STATE);
        history.forget();
        slots.forget();
        pond.empty();
        return text.carryOut(pond);
    }

    // ---- what there is

    public int about(int what) throws IllegalArgumentException {
        refuse(faultOfWhat(what, 10));
        return pond.number(what);
    }

    public int wheelOf(int w, int what) throws IndexOutOfBoundsException, IllegalArgumentException {
        refuse(pond.wheels.has(w) ? faultOfWhat(what, 7) : NO_SUCH);
        return pond.numberOfWheel(w, what);
    }

    public int placeOf(int w, int p, int what) throws IndexOutOfBoundsException, IllegalArgumentException {
        refuse(pond.wheels.hasPlace(w, p) ? faultOfWhat(what, 3) : NO_SUCH);
        return pond.numberOfPlace(w, p, what);
    }

    public int frogOf(int f, int what) throws IndexOutOfBoundsException, IllegalArgumentException {
        refuse(pond.frogs.has(f) ? faultOfWhat(what, 5) : NO_SUCH);
        return pond.numberOfFrog(f, what);
    }

    public int lineOf(int l, int what) throws IndexOutOfBoundsException, IllegalArgumentException {
        refuse(pond.lines.has(l) ? faultOfWhat(what, 3) : NO_SUCH);
        return pond.lines.number(l, what);
    }

    // ---- actions

    public int wheel(int n, int notch, int strength) throws IllegalArgumentException, IllegalStateException {
        refuse(pond.faultOfWheel(n, notch, strength));
        history.remember(pond);
        return pond.wheels.add(n, notch, strength);
    }

    public int line(int w, int p, int w2, int p2)
            throws IndexOutOfBoundsException, IllegalArgumentException, IllegalStateException {
        refuse(pond.faultOfLine(w, p, w2, p2));
        history.remember(pond);
        return pond.lines.add(spot(w, p), spot(w2, p2));
    }

    public int frog(int w, int p, int weight)
            throws IndexOutOfBoundsException, IllegalArgumentException, IllegalStateException {
        refuse(pond.faultOfFrog(w, p, weight));
        history.remember(pond);
        return pond.frogs.add(w, pond.wheels.padAt(w, p), weight);
    }

    public int flies(int w, int p, int n) throws IndexOutOfBoundsException, IllegalArgumentException {
        refuse(pond.faultOfFlies(w, p, n));
        history.remember(pond);
        return pond.bring(w, pond.wheels.padAt(w, p), n);
    }

    public int leap(int f, int l) throws IndexOutOfBoundsException {
        refuse(pond.faultOfLeap(f, l));
        history.remember(pond);
        return pond.leapIfItCan(f, l);
    }

    public int hop(int f, int side) throws IndexOutOfBoundsException, IllegalArgumentException {
        refuse(pond.faultOfHop(f, side));
        history.remember(pond);
        return pond.hopIfItCan(f, side);
    }

    public int turn(int w, int k) throws IndexOutOfBoundsException, IllegalArgumentException {
        refuse(pond.faultOfTurn(w, k));
        history.remember(pond);
        return pond.wheels.turnBy(w, k);
    }

    public int set(int v) throws IllegalArgumentException {
        refuse(within(v, 0, 1) ? FINE : BAD_ARGUMENT);
        history.remember(pond);
        int previous = pond.setting;
        pond.setting = v;
        return previous;
    }

    public int undo() throws IllegalStateException {
        refuse(history.isEmpty() ? BAD_STATE : FINE);
        return history.takeBack(pond);
    }

    // ---- what would be

    public int why(int f, int l) throws IndexOutOfBoundsException {
        refuse(pond.faultOfLeap(f, l));
        return pond.whyNoLeap(f, l);
    }

    public int fewest(int f, int w, int p, int way) throws IndexOutOfBoundsException, IllegalArgumentException {
        refuse(pond.frogs.has(f) && pond.wheels.hasPlace(w, p) ? faultOfWhat(way, 1) : NO_SUCH);
        search.begin(pond, f);
        return way == 0 ? search.fewestByWaves(spot(w, p)) : search.fewestByCorrections(spot(w, p));
    }

    public int couldBe(int f, int w) throws IndexOutOfBoundsException {
        refuse(pond.frogs.has(f) && pond.wheels.has(w) ? FINE : NO_SUCH);
        search.begin(pond, f);
        return search.placesReached(w);
    }

    public int mostFlies(int f, int n) throws IndexOutOfBoundsException, IllegalArgumentException {
        refuse(!pond.frogs.has(f) ? NO_SUCH : within(n, 1, 4) ? FINE : BAD_ARGUMENT);
        search.begin(pond, f);
        return search.mostToEat(pond, n);
    }

    // ---- scripts, simulations

    public int runScript(int n, long script) throws IllegalArgumentException {
        refuse(Script.fault(n, script));
        trial.takeOver(pond);
        return Script.firstFailure(trial, n, script);
    }

    public int simulate(long seed, int m) throws IllegalArgumentException {
        refuse(within(m, 1, 60) ? FINE : BAD_ARGUMENT);
        trial.takeOver(pond);
        Simulation.run(trial, seed, m);
        return 1000 * (trial.moves - pond.moves) + Math.min(999, trial.eaten - pond.eaten);
    }

    // ---- save slots

    public int save(int slot) throws IndexOutOfBoundsException {
        refuse(within(slot, 0, SLOTS - 1) ? FINE : NO_SUCH);
        slots.keep(slot, pond);
        return pond.moves;
    }

    public int restore(int slot) throws IndexOutOfBoundsException, IllegalStateException {
        refuse(!within(slot, 0, SLOTS - 1) ? NO_SUCH : slots.isFull(slot) ? FINE : BAD_STATE);
        history.forget();
        slots.give(slot, pond);
        return pond.moves;
    }

    private static void refuse(int fault) {
        if (fault == NO_SUCH) {
            throw new IndexOutOfBoundsException("there is no such wheel, place, frog, line or save slot");
        }
        if (fault == BAD_ARGUMENT) {
            throw new IllegalArgumentException("an argument is out of its range");
        }
        if (fault == BAD_STATE) {
            throw new IllegalStateException("this cannot be done now");
        }
    }

    private static int faultOfWhat(int what, int last) {
        return within(what, 0, last) ? FINE : BAD_ARGUMENT;
    }

    private static boolean within(int v, int from, int to) {
        return v >= from && v <= to;
    }

    private static int spot(int w, int p) {
        return w * MOST_PLACES + p;
    }

    /** a modulo n, never negative. */
    private static int wrap(int a, int n) {
        return n > 0 ? (a % n + n) % n : 0;
    }

    // All rows are read and written by these two, so that no index is used
    // unseen.

    private static int at(int[] row, int i) {
        return i >= 0 && i < row.length ? row[i] : 0;
    }

    private static void put(int[] row, int i, int v) {
        if (i >= 0 && i < row.length) {
            row[i] = v;
        }
    }

    /** Both rows are of one length wherever this is called. */
    private static void copy(int[] from, int[] to) {
        System.arraycopy(from, 0, to, 0, Math.min(from.length, to.length));
    }

    /** The wheels with their pads and the flies on these. */
    private static final class Wheels {
        int count = 0;
        final int[] places = new int[MOST_WHEELS];
        final int[] notch = new int[MOST_WHEELS];
        final int[] strength = new int[MOST_WHEELS];
        final int[] turn = new int[MOST_WHEELS];
        final int[] leftTurns = new int[MOST_WHEELS];
        final int[] flies = new int[SPOTS];

        boolean has(int w) {
            return w >= 0 && w < count;
        }

        boolean hasPlace(int w, int p) {
            return has(w) && p >= 0 && p < at(places, w);
        }

        // Writes every number of the wheel: the rows may hold those of a wheel
        // that has been forgotten.
        int add(int n, int itsNotch, int itsStrength) {
            int w = count;
            put(places, w, n);
            put(notch, w, itsNotch);
            put(strength, w, itsStrength);
            put(turn, w, 0);
            put(leftTurns, w, 0);
            for (int pad = 0; pad < MOST_PLACES; pad++) {
                put(flies, spot(w, pad), 0);
            }
            count++;
            return w;
        }

        int padAt(int w, int p) {
            return wrap(p - at(turn, w), at(places, w));
        }

        int spotOfPad(int w, int pad) {
            return spot(w, wrap(pad + at(turn, w), at(places, w)));
        }

        int turnBy(int w, int k) {
            put(turn, w, wrap(at(turn, w) + k, at(places, w)));
            return at(turn, w);
        }

        void turnAsLeft(int w) {
            turnBy(w, at(notch, w));
            put(leftTurns, w, at(leftTurns, w) + 1);
        }

        /** After how many turns by its notch it is as it was. */
        int period(int w) {
            int n = at(places, w);
            int k = 1;
            while (k < n && wrap(k * at(notch, w), n) != 0) {
                k++;
            }
            return k;
        }

        int fliesOf(int w) {
            int sum = 0;
            for (int pad = 0; pad < at(places, w); pad++) {
                sum += at(flies, spot(w, pad));
            }
            return sum;
        }

        int fliesOfAll() {
            int sum = 0;
            for (int w = 0; w < count; w++) {
                sum += fliesOf(w);
            }
            return sum;
        }

        void takeOver(Wheels other) {
            count = other.count;
            copy(other.places, places);
            copy(other.notch, notch);
            copy(other.strength, strength);
            copy(other.turn, turn);
            copy(other.leftTurns, leftTurns);
            copy(other.flies, flies);
        }
    }

    /** The lines, each between two spots. */
    private static final class Lines {
        int count = 0;
        final int[] first = new int[MOST_LINES];
        final int[] other = new int[MOST_LINES];

        boolean has(int l) {
            return l >= 0 && l < count;
        }

        int add(int from, int to) {
            int l = count;
            put(first, l, from);
            put(other, l, to);
            count++;
            return l;
        }

        /** The spot across the line, or NONE if it does not end here. */
        int across(int l, int here) {
            if (at(first, l) == here) {
                return at(other, l);
            }
            return at(other, l) == here ? at(first, l) : NONE;
        }

        int endingAt(int here) {
            int sum = 0;
            for (int l = 0; l < count; l++) {
                if (across(l, here) != NONE) {
                    sum++;
                }
            }
            return sum;
        }

        int number(int l, int what) {
            int end = what < 2 ? at(first, l) : at(other, l);
            return what % 2 == 0 ? end / MOST_PLACES : end % MOST_PLACES;
        }

        void takeOver(Lines others) {
            count = others.count;
            copy(others.first, first);
            copy(others.other, other);
        }
    }

    /** The frogs, each on a pad. */
    private static final class Frogs {
        int count = 0;
        final int[] weight = new int[MOST_FROGS];
        final int[] wheel = new int[MOST_FROGS];
        final int[] pad = new int[MOST_FROGS];
        final int[] ate = new int[MOST_FROGS];
        final int[] moves = new int[MOST_FROGS];

        boolean has(int f) {
            return f >= 0 && f < count;
        }

        int add(int w, int itsPad, int itsWeight) {
            int f = count;
            put(weight, f, itsWeight);
            put(ate, f, 0);
            put(moves, f, 0);
            sit(f, w, itsPad);
            count++;
            return f;
        }

        void sit(int f, int w, int itsPad) {
            put(wheel, f, w);
            put(pad, f, itsPad);
        }

        /** The frog that sits on a pad, or NONE. */
        int on(int w, int itsPad) {
            for (int f = 0; f < count; f++) {
                if (at(wheel, f) == w && at(pad, f) == itsPad) {
                    return f;
                }
            }
            return NONE;
        }

        /** The weights on a wheel, but for that of one frog (NONE: of all). */
        int weightOn(int w, int without) {
            int sum = 0;
            for (int f = 0; f < count; f++) {
                if (at(wheel, f) == w && f != without) {
                    sum += at(weight, f);
                }
            }
            return sum;
        }

        void takeOver(Frogs other) {
            count = other.count;
            copy(other.weight, weight);
            copy(other.wheel, wheel);
            copy(other.pad, pad);
            copy(other.ate, ate);
            copy(other.moves, moves);
        }
    }

    /** The state: everything but the text, the save slots and what is remembered. */
    private static final class Pond {
        final Wheels wheels = new Wheels();
        final Lines lines = new Lines();
        final Frogs frogs = new Frogs();
        int moves = 0;
        int eaten = 0;
        int goneOff = 0;
        int came = 0;
        int latest = NONE;
        int setting = 0;

        void empty() {
            wheels.count = 0;
            lines.count = 0;
            frogs.count = 0;
            moves = 0;
            eaten = 0;
            goneOff = 0;
            came = 0;
            latest = NONE;
            setting = 0;
        }

        void takeOver(Pond other) {
            wheels.takeOver(other.wheels);
            lines.takeOver(other.lines);
            frogs.takeOver(other.frogs);
            moves = other.moves;
            eaten = other.eaten;
            goneOff = other.goneOff;
            came = other.came;
            latest = other.latest;
            setting = other.setting;
        }

        // ---- what is wrong with a call, the first that applies

        int faultOfWheel(int n, int notch, int strength) {
            if (!within(n, 3, MOST_PLACES) || !within(notch, -4, 4) || !within(strength, 0, 30)) {
                return BAD_ARGUMENT;
            }
            return wheels.count < MOST_WHEELS ? FINE : BAD_STATE;
        }

        int faultOfLine(int w, int p, int w2, int p2) {
            if (!wheels.hasPlace(w, p) || !wheels.hasPlace(w2, p2)) {
                return NO_SUCH;
            }
            if (w == w2) {
                return BAD_ARGUMENT;
            }
            return lines.count < MOST_LINES ? FINE : BAD_STATE;
        }

        int faultOfFrog(int w, int p, int weight) {
            if (!wheels.hasPlace(w, p)) {
                return NO_SUCH;
            }
            if (!within(weight, 1, 9)) {
                return BAD_ARGUMENT;
            }
            boolean free = frogs.on(w, wheels.padAt(w, p)) == NONE;
            return free && frogs.count < MOST_FROGS ? FINE : BAD_STATE;
        }

        int faultOfFlies(int w, int p, int n) {
            if (!wheels.hasPlace(w, p)) {
                return NO_SUCH;
            }
            return within(n, 1, MOST_FLIES) ? FINE : BAD_ARGUMENT;
        }

        int faultOfLeap(int f, int l) {
            return frogs.has(f) && lines.has(l) ? FINE : NO_SUCH;
        }

        int faultOfHop(int f, int side) {
            if (!frogs.has(f)) {
                return NO_SUCH;
            }
            return side == 1 || side == -1 ? FINE : BAD_ARGUMENT;
        }

        int faultOfTurn(int w, int k) {
            if (!wheels.has(w)) {
                return NO_SUCH;
            }
            return within(k, -4, 4) ? FINE : BAD_ARGUMENT;
        }

        // ---- calls that are left out where they would throw: true if it was
        // done

        boolean tryWheel(int n, int notch, int strength) {
            if (faultOfWheel(n, notch, strength) != FINE) {
                return false;
            }
            wheels.add(n, notch, strength);
            return true;
        }

        boolean tryLine(int w, int p, int w2, int p2) {
            if (faultOfLine(w, p, w2, p2) != FINE) {
                return false;
            }
            lines.add(spot(w, p), spot(w2, p2));
            return true;
        }

        boolean tryFrog(int w, int p, int weight) {
            if (faultOfFrog(w, p, weight) != FINE) {
                return false;
            }
            frogs.add(w, wheels.padAt(w, p), weight);
            return true;
        }

        boolean tryFlies(int w, int p, int n) {
            if (faultOfFlies(w, p, n) != FINE) {
                return false;
            }
            bring(w, wheels.padAt(w, p), n);
            return true;
        }

        boolean tryTurn(int w, int k) {
            if (faultOfTurn(w, k) != FINE) {
                return false;
            }
            wheels.turnBy(w, k);
            return true;
        }

        // ---- flies

        /** Those that the pad cannot hold go off; returns the flies on it then. */
        int bring(int w, int pad, int n) {
            int here = at(wheels.flies, spot(w, pad));
            int stay = Math.min(n, MOST_FLIES - here);
            put(wheels.flies, spot(w, pad), here + stay);
            goneOff += n - stay;
            came += n;
            return here + stay;
        }

        private void eat(int f, int n) {
            put(frogs.ate, f, at(frogs.ate, f) + n);
            eaten += n;
        }

        private void flyComes() {
            int w = wrap(moves, wheels.count);
            int pad = wheels.padAt(w, wrap(moves, at(wheels.places, w)));
            int f = frogs.on(w, pad);
            if (f == NONE) {
                bring(w, pad, 1);
            } else {
                came++;
                eat(f, 1);
            }
        }

        // ---- moves

        int spotOfFrog(int f) {
            return wheels.spotOfPad(at(frogs.wheel, f), at(frogs.pad, f));
        }

        private int whyNotTo(int f, int target) {
            int w = target / MOST_PLACES;
            if (frogs.on(w, wheels.padAt(w, target % MOST_PLACES)) != NONE) {
                return PAD_TAKEN;
            }
            return setting == 1 && latest == f ? MOVED_LATEST : CAN_GO;
        }

        int whyNoLeap(int f, int l) {
            int target = lines.across(l, spotOfFrog(f));
            return target == NONE ? NOT_AT_LINE : whyNotTo(f, target);
        }

        // Texts, scripts and simulations name frogs and lines that may not
        // exist: both moves answer NONE then.

        int leapIfItCan(int f, int l) {
            if (faultOfLeap(f, l) != FINE) {
                return NONE;
            }
            int reason = whyNoLeap(f, l);
            if (reason == CAN_GO) {
                int left = at(frogs.wheel, f);
                comeTo(f, lines.across(l, spotOfFrog(f)));
                if (frogs.weightOn(left, NONE) <= at(wheels.strength, left)) {
                    wheels.turnAsLeft(left);
                }
                countMove(f);
            }
            return reason;
        }

        int hopIfItCan(int f, int side) {
            if (faultOfHop(f, side) != FINE) {
                return NONE;
            }
            int w = at(frogs.wheel, f);
            int target = wheels.spotOfPad(w, at(frogs.pad, f) + side);
            int reason = whyNotTo(f, target);
            if (reason == CAN_GO) {
                comeTo(f, target);
                countMove(f);
            }
            return reason;
        }

        private void comeTo(int f, int target) {
            int w = target / MOST_PLACES;
            int pad = wheels.padAt(w, target % MOST_PLACES);
            frogs.sit(f, w, pad);
            eat(f, at(wheels.flies, spot(w, pad)));
            put(wheels.flies, spot(w, pad), 0);
        }

        private void countMove(int f) {
            moves++;
            put(frogs.moves, f, at(frogs.moves, f) + 1);
            latest = f;
            flyComes();
        }

        boolean canLeapSomewhere(int f) {
            for (int l = 0; l < lines.count; l++) {
                if (whyNoLeap(f, l) == CAN_GO) {
                    return true;
                }
            }
            return false;
        }

        private int frogsThatCanLeap() {
            int sum = 0;
            for (int f = 0; f < frogs.count; f++) {
                if (canLeapSomewhere(f)) {
                    sum++;
                }
            }
            return sum;
        }

        // ---- what there is

        int number(int what) {
            switch (what) {
                case 0: return wheels.count;
                case 1: return lines.count;
                case 2: return frogs.count;
                case 3: return moves;
                case 4: return wheels.fliesOfAll();
                case 5: return eaten;
                case 6: return goneOff;
                case 7: return came;
                case 8: return latest;
                case 9: return setting;
                default: return frogsThatCanLeap();
            }
        }

        int numberOfWheel(int w, int what) {
            switch (what) {
                case 0: return at(wheels.places, w);
                case 1: return at(wheels.notch, w);
                case 2: return at(wheels.strength, w);
                case 3: return at(wheels.turn, w);
                case 4: return frogs.weightOn(w, NONE);
                case 5: return wheels.fliesOf(w);
                case 6: return wheels.period(w);
                default: return at(wheels.leftTurns, w);
            }
        }

        int numberOfPlace(int w, int p, int what) {
            int pad = wheels.padAt(w, p);
            switch (what) {
                case 0: return pad;
                case 1: return at(wheels.flies, spot(w, pad));
                case 2: return frogs.on(w, pad);
                default: return lines.endingAt(spot(w, p));
            }
        }

        int numberOfFrog(int f, int what) {
            switch (what) {
                case 0: return at(frogs.weight, f);
                case 1: return at(frogs.wheel, f);
                case 2: return at(frogs.pad, f);
                case 3: return spotOfFrog(f) % MOST_PLACES;
                case 4: return at(frogs.ate, f);
                default: return at(frogs.moves, f);
            }
        }
    }

    /** The states that are remembered, in a ring. */
    private static final class History {
        private final Pond[] ring = new Pond[MOST_REMEMBERED];
        private int oldest = 0;
        private int count = 0;

        History() {
            for (int i = 0; i < MOST_REMEMBERED; i++) {
                ring[i] = new Pond();
            }
        }

        boolean isEmpty() {
            return count == 0;
        }

        void forget() {
            count = 0;
        }

        private Pond kept(int i) {
            int k = wrap(oldest + i, MOST_REMEMBERED);
            return k >= 0 && k < ring.length ? ring[k] : null;
        }

        void remember(Pond pond) {
            if (count == MOST_REMEMBERED) {
                oldest = wrap(oldest + 1, MOST_REMEMBERED);
                count--;
            }
            Pond free = kept(count);
            if (free != null) {
                free.takeOver(pond);
                count++;
            }
        }

        /** Makes the pond as it was last, and returns how many are still remembered. */
        int takeBack(Pond pond) {
            Pond last = kept(count - 1);
            if (last != null && count > 0) {
                pond.takeOver(last);
                count--;
            }
            return count;
        }
    }

    /** The save slots. */
    private static final class Slots {
        private final Pond[] ponds = new Pond[SLOTS];
        private final int[] full = new int[SLOTS];

        Slots() {
            for (int i = 0; i < SLOTS; i++) {
                ponds[i] = new Pond();
            }
        }

        private Pond kept(int slot) {
            return slot >= 0 && slot < ponds.length ? ponds[slot] : null;
        }

        boolean isFull(int slot) {
            return at(full, slot) == 1;
        }

        void forget() {
            Arrays.fill(full, 0);
        }

        void keep(int slot, Pond pond) {
            Pond kept = kept(slot);
            if (kept != null) {
                kept.takeOver(pond);
                put(full, slot, 1);
            }
        }

        void give(int slot, Pond pond) {
            Pond kept = kept(slot);
            if (kept != null) {
                pond.takeOver(kept);
            }
        }
    }

    /** The text buffer; it checks the text, and does its commands. */
    private static final class Text {
        private final int[] signs = new int[MOST_SIGNS];
        private int length = 0;

        int faultOfSign(int c) {
            if (!within(c, 0, 255)) {
                return BAD_ARGUMENT;
            }
            return length < MOST_SIGNS ? FINE : BAD_STATE;
        }

        int add(int c) {
            put(signs, length, c);
            length++;
            return length;
        }

        int empty() {
            int previous = length;
            length = 0;
            return previous;
        }

        /** The index of the first character that is not allowed, or NONE. */
        int firstError() {
            if (length == 0 || at(signs, 0) != 'P') {
                return 0;
            }
            int i = 1;
            while (i < length) {
                String form = formOf(at(signs, i));
                if (form.isEmpty()) {
                    return i;
                }
                i++;
                for (int k = 0; k < form.length(); k++) {
                    if (i >= length || !isAllowed(form.charAt(k), i)) {
                        return i;
                    }
                    i++;
                }
            }
            return NONE;
        }

        /** What stands behind a command's letter, a kind each; empty if there is no such command. */
        private static String formOf(int letter) {
            switch (letter) {
                case 'w': return "notu";
                case 'l': return "wpwp";
                case 'f': return "wpd";
                case 'y': return "wpd";
                case 'j': return "fl";
                case 'h': return "fs";
                case 't': return "wk";
                default: return "";
            }
        }

        private boolean isAllowed(int kind, int i) {
            int sign = at(signs, i);
            switch (kind) {
                case 'n': return within(sign, '3', '5');
                case 'o': return within(sign, '0', '8');
                case 't': return within(sign, '0', '3');
                case 'u': return within(sign, '0', at(signs, i - 1) == '3' ? '0' : '9');
                case 'w': return within(sign, '0', '2');
                case 'p': return within(sign, '0', '4');
                case 'f': return within(sign, '0', '4');
                case 'd': return within(sign, '1', '9');
                case 'l': return within(sign, '0', '7');
                case 'k': return within(sign, '1', '4');
                default: return sign == '+' || sign == '-';
            }
        }

        /** Does the commands of a text without errors; returns how many are left out. */
        int carryOut(Pond pond) {
            int leftOut = 0;
            int i = 1;
            while (i < length) {
                if (!isDone(pond, i)) {
                    leftOut++;
                }
                i += 1 + formOf(at(signs, i)).length();
            }
            return leftOut;
        }

        private boolean isDone(Pond pond, int i) {
            int a = digit(i + 1);
            int b = digit(i + 2);
            int c = digit(i + 3);
            int d = digit(i + 4);
            switch (at(signs, i)) {
                case 'w': return pond.tryWheel(a, b - 4, 10 * c + d);
                case 'l': return pond.tryLine(a, b, c, d);
                case 'f': return pond.tryFrog(a, b, c);
                case 'y': return pond.tryFlies(a, b, c);
                case 'j': return pond.leapIfItCan(a, b) == CAN_GO;
                case 'h': return pond.hopIfItCan(a, at(signs, i + 2) == '+' ? 1 : -1) == CAN_GO;
                default: return pond.tryTurn(a, b);
            }
        }

        private int digit(int i) {
            return at(signs, i) - '0';
        }
    }

    /** Scripts: groups of five digits. */
    private static final class Script {
        private static final long GROUP = 100000L;

        static int fault(int n, long script) {
            if (!within(n, 1, 3) || script < 0) {
                return BAD_ARGUMENT;
            }
            return script < groups(n) ? FINE : BAD_ARGUMENT;
        }

        /** The least number that has more than n groups. */
        private static long groups(int n) {
            long power = 1;
            for (int i = 0; i < n; i++) {
                power *= GROUP;
            }
            return power;
        }

        static int firstFailure(Pond pond, int n, long script) {
            for (int i = 0; i < n; i++) {
                long behind = groups(n - 1 - i);
                if (behind > 0 && !isDone(pond, (int) (script / behind % GROUP))) {
                    return i;
                }
            }
            return NONE;
        }

        private static boolean isDone(Pond pond, int group) {
            int a = group / 1000 % 10;
            int b = group / 100 % 10;
            int c = group / 10 % 10;
            int d = group % 10;
            switch (group / 10000) {
                case 1: return d == 0 && pond.leapIfItCan(a, 10 * b + c) == CAN_GO;
                case 2: return c == 0 && d == 0 && pond.hopIfItCan(a, 2 * b - 1) == CAN_GO;
                case 3: return b == 0 && c == 0 && pond.tryTurn(a, d - 4);
                default: return holds(pond, group);
            }
        }

        private static boolean holds(Pond pond, int group) {
            int a = group / 1000 % 10;
            int b = group / 100 % 10;
            int c = group / 10 % 10;
            int d = group % 10;
            int number = 10 * c + d;
            switch (group / 10000) {
                case 4: return d == 0 && pond.frogs.has(a) && pond.wheels.hasPlace(b, c)
                        && pond.spotOfFrog(a) == spot(b, c);
                case 5: return b == 0 && c == 0 && pond.wheels.has(a) && at(pond.wheels.turn, a) == d;
                case 6: return a == 0 && b == 0 && pond.eaten >= number;
                case 7: return c == 0 && pond.wheels.hasPlace(a, b) && pond.numberOfPlace(a, b, 1) >= d;
                case 8: return pond.faultOfLeap(a, 10 * b + c) == FINE && pond.whyNoLeap(a, 10 * b + c) == d;
                case 9: return b == 0 && pond.frogs.has(a) && at(pond.frogs.ate, a) >= number;
                default: return false;
            }
        }
    }

    /** Simulations: turns drawn from a seed. */
    private static final class Simulation {
        static void run(Pond pond, long seed, int m) {
            long x = seed;
            for (int i = 0; i < m; i++) {
                x = x * 6364136223846793005L + 1442695040888963407L;
                takeTurn(pond, (int) (x >>> 33));
            }
        }

        private static void takeTurn(Pond pond, int r) {
            int q = r / 16;
            int kind = r % 16;
            if (kind == 0) {
                pond.tryWheel(3 + q % 3, q / 4 % 9 - 4, q / 64 % 31);
            } else if (kind <= 2) {
                pond.tryLine(q % 3, q / 4 % 5, q / 32 % 3, q / 128 % 5);
            } else if (kind == 3) {
                pond.tryFrog(q % 3, q / 4 % 5, 1 + q / 32 % 9);
            } else if (kind == 4) {
                pond.tryFlies(q % 3, q / 4 % 5, 1 + q / 32 % 9);
            } else if (kind == 5) {
                pond.tryTurn(q % 3, q / 4 % 9 - 4);
            } else if (kind <= 9) {
                pond.hopIfItCan(q % 5, 2 * (q / 8 % 2) - 1);
            } else {
                pond.leapIfItCan(q % 5, q / 8 % 8);
            }
        }
    }

    /**
     * Tells what one frog could do if no other one moves.
     *
     * A standing is one way in which the wheels and the frog could stand, as a
     * number: (turn of wheel 0 * 25 + of wheel 1 * 5 + of wheel 2) * 15 + the
     * frog's spot. What lies ahead of the spot is called the turns.
     */
    private static final class Search {
        private static final int TURNS = 125;
        private static final int STANDINGS = TURNS * SPOTS;
        private static final int MOST_WAYS = 2 + MOST_LINES;
        // More than any number of moves that is the fewest.
        private static final int FAR = STANDINGS;

        // At wheel * 5 + turn: its turn when it has been left, and whether it
        // could stand with this turn (1 or 0).
        private final int[] turnWhenLeft = new int[SPOTS];
        private final int[] couldTurnTo = new int[SPOTS];
        // At wheel * 5 + pad: whether another frog sits there (1 or 0).
        private final int[] taken = new int[SPOTS];
        // The pad (wheel * 5 + pad) below the frog in each standing; NONE if it
        // cannot stand so.
        private final int[] padBelow = new int[STANDINGS];
        // The spots to which a move goes from each spot.
        private final int[] ways = new int[SPOTS * MOST_WAYS];
        private final int[] wayCount = new int[SPOTS];
        private final int[] far = new int[STANDINGS];
        private final int[] queue = new int[STANDINGS];
        private final int[] fliesLeft = new int[SPOTS];
        private int now = 0;

        void begin(Pond pond, int f) {
            listWays(pond);
            listTurns(pond, f);
            listTaken(pond, f);
            for (int turns = 0; turns < TURNS; turns++) {
                layPads(pond.wheels, turns);
            }
            int turns = 0;
            for (int w = 0; w < pond.wheels.count; w++) {
                turns += at(pond.wheels.turn, w) * unit(w);
            }
            now = turns * SPOTS + pond.spotOfFrog(f);
        }

        private static int unit(int w) {
            return w == 0 ? 25 : w == 1 ? 5 : 1;
        }

        private static int turnOf(int turns, int w) {
            return w == 0 ? turns / 25 : w == 1 ? turns / 5 % 5 : turns % 5;
        }

        private void listWays(Pond pond) {
            Arrays.fill(wayCount, 0);
            for (int w = 0; w < pond.wheels.count; w++) {
                int n = at(pond.wheels.places, w);
                for (int p = 0; p < n; p++) {
                    addWay(spot(w, p), spot(w, wrap(p + 1, n)));
                    addWay(spot(w, p), spot(w, wrap(p - 1, n)));
                }
            }
            for (int l = 0; l < pond.lines.count; l++) {
                addWay(at(pond.lines.first, l), at(pond.lines.other, l));
                addWay(at(pond.lines.other, l), at(pond.lines.first, l));
            }
        }

        // A second line between the same spots leads nowhere new.
        private void addWay(int from, int to) {
            int count = at(wayCount, from);
            for (int k = 0; k < count; k++) {
                if (at(ways, from * MOST_WAYS + k) == to) {
                    return;
                }
            }
            if (count < MOST_WAYS) {
                put(ways, from * MOST_WAYS + count, to);
                put(wayCount, from, count + 1);
            }
        }

        // The others stay on their wheels, so whether a wheel turns when this
        // frog leaves it never changes.
        private void listTurns(Pond pond, int f) {
            Arrays.fill(couldTurnTo, 0);
            for (int w = 0; w < MOST_WHEELS; w++) {
                boolean turns = pond.wheels.has(w) && pond.frogs.weightOn(w, f) <= at(pond.wheels.strength, w);
                int by = turns ? at(pond.wheels.notch, w) : 0;
                for (int turn = 0; turn < MOST_PLACES; turn++) {
                    put(turnWhenLeft, spot(w, turn), wrap(turn + by, at(pond.wheels.places, w)));
                }
                int turn = pond.wheels.has(w) ? at(pond.wheels.turn, w) : 0;
                for (int k = 0; k < MOST_PLACES; k++) {
                    put(couldTurnTo, spot(w, turn), 1);
                    turn = at(turnWhenLeft, spot(w, turn));
                }
            }
        }

        private void listTaken(Pond pond, int f) {
            for (int w = 0; w < MOST_WHEELS; w++) {
                for (int pad = 0; pad < MOST_PLACES; pad++) {
                    int sitting = pond.frogs.on(w, pad);
                    put(taken, spot(w, pad), sitting == NONE || sitting == f ? 0 : 1);
                }
            }
        }

        private void layPads(Wheels wheels, int turns) {
            boolean could = couldBeTurned(turns);
            for (int w = 0; w < MOST_WHEELS; w++) {
                for (int p = 0; p < MOST_PLACES; p++) {
                    int below = NONE;
                    if (could && wheels.hasPlace(w, p)) {
                        int pad = spot(w, wrap(p - turnOf(turns, w), at(wheels.places, w)));
                        below = at(taken, pad) == 1 ? NONE : pad;
                    }
                    put(padBelow, turns * SPOTS + spot(w, p), below);
                }
            }
        }

        private boolean couldBeTurned(int turns) {
            for (int w = 0; w < MOST_WHEELS; w++) {
                if (at(couldTurnTo, spot(w, turnOf(turns, w))) == 0) {
                    return false;
                }
            }
            return true;
        }

        /** The standing behind the way number k, or NONE if the frog cannot go it. */
        private int after(int standing, int k) {
            int turns = standing / SPOTS;
            int from = standing % SPOTS;
            int to = at(ways, from * MOST_WAYS + k);
            if (at(padBelow, turns * SPOTS + to) == NONE) {
                return NONE;
            }
            int w = from / MOST_PLACES;
            if (to / MOST_PLACES != w) {
                int turn = turnOf(turns, w);
                turns += (at(turnWhenLeft, spot(w, turn)) - turn) * unit(w);
            }
            return turns * SPOTS + to;
        }

        /** Goes on by one move more each time, until the frog is at the goal (NONE: to the end). */
        int fewestByWaves(int goal) {
            Arrays.fill(far, NONE);
            put(far, now, 0);
            put(queue, 0, now);
            int end = 1;
            for (int i = 0; i < end && i < STANDINGS; i++) {
                int here = at(queue, i);
                if (here % SPOTS == goal) {
                    return at(far, here);
                }
                for (int k = 0; k < at(wayCount, here % SPOTS); k++) {
                    int next = after(here, k);
                    if (next != NONE && at(far, next) == NONE) {
                        put(far, next, at(far, here) + 1);
                        put(queue, end, next);
                        end++;
                    }
                }
            }
            return NONE;
        }

        int placesReached(int w) {
            fewestByWaves(NONE);
            int set = 0;
            for (int standing = 0; standing < STANDINGS; standing++) {
                int its = standing % SPOTS;
                if (at(far, standing) != NONE && its / MOST_PLACES == w) {
                    set |= 1 << its % MOST_PLACES;
                }
            }
            return set;
        }

        /** Corrects how far the goal is from each standing, until nothing changes. */
        int fewestByCorrections(int goal) {
            for (int standing = 0; standing < STANDINGS; standing++) {
                put(far, standing, standing % SPOTS == goal ? 0 : FAR);
            }
            boolean changed = true;
            for (int round = 0; changed && round < STANDINGS; round++) {
                changed = correctAll();
            }
            return at(far, now) < FAR ? at(far, now) : NONE;
        }

        private boolean correctAll() {
            boolean changed = false;
            for (int standing = 0; standing < STANDINGS; standing++) {
                if (at(padBelow, standing) != NONE && correct(standing)) {
                    changed = true;
                }
            }
            return changed;
        }

        private boolean correct(int standing) {
            int best = at(far, standing);
            for (int k = 0; k < at(wayCount, standing % SPOTS); k++) {
                int next = after(standing, k);
                if (next != NONE) {
                    best = Math.min(best, at(far, next) + 1);
                }
            }
            boolean better = best < at(far, standing);
            put(far, standing, best);
            return better;
        }

        int mostToEat(Pond pond, int n) {
            copy(pond.wheels.flies, fliesLeft);
            return mostFrom(this, now, n);
        }

        // At most 4 moves are left, so this goes no deeper than 5.
        private static int mostFrom(Search search, int standing, int left) {
            int best = 0;
            if (left <= 0) {
                return best;
            }
            for (int k = 0; k < at(search.wayCount, standing % SPOTS); k++) {
                int next = search.after(standing, k);
                if (next != NONE) {
                    int pad = at(search.padBelow, next);
                    int eaten = at(search.fliesLeft, pad);
                    put(search.fliesLeft, pad, 0);
                    best = Math.max(best, eaten + mostFrom(search, next, left - 1));
                    put(search.fliesLeft, pad, eaten);
                }
            }
            return best;
        }
    }
}
