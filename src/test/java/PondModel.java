import java.util.ArrayDeque;
import java.util.ArrayList;
import java.util.HashMap;
import java.util.HashSet;
import java.util.List;
import java.util.Map;
import java.util.Set;
import java.util.regex.Matcher;
import java.util.regex.Pattern;

/**
 * The document once more, as plainly as it can be said and without a care for
 * speed: ModelTest compares the class with it. It shares no line with it.
 */
final class PondModel {
    private static final String COMMAND = "w[345][0-8](?:[012][0-9]|30)|l[012][0-4][012][0-4]|f[012][0-4][1-9]"
            + "|y[012][0-4][1-9]|j[0-4][0-7]|h[0-4][+-]|t[012][1-4]";
    private static final Pattern POND = Pattern.compile("P(?:" + COMMAND + ")*", Pattern.DOTALL);

    static final class Wheel {
        int n, notch, strength, r, leapTurns;
        int[] padFlies;

        Wheel copy() {
            Wheel c = new Wheel();
            c.n = n;
            c.notch = notch;
            c.strength = strength;
            c.r = r;
            c.leapTurns = leapTurns;
            c.padFlies = padFlies.clone();
            return c;
        }

        int pad(int place) {
            return Math.floorMod(place - r, n);
        }
    }

    static final class Frog {
        int weight, wheel, pad, ate, moves;

        Frog copy() {
            Frog c = new Frog();
            c.weight = weight;
            c.wheel = wheel;
            c.pad = pad;
            c.ate = ate;
            c.moves = moves;
            return c;
        }
    }

    static final class State {
        List<Wheel> wheels = new ArrayList<>();
        List<int[]> lines = new ArrayList<>();
        List<Frog> frogs = new ArrayList<>();
        int goneOff, came, latest = -1, setting;
        boolean fliesCome = true;

        State copy() {
            State c = new State();
            for (Wheel w : wheels) c.wheels.add(w.copy());
            for (int[] l : lines) c.lines.add(l.clone());
            for (Frog f : frogs) c.frogs.add(f.copy());
            c.goneOff = goneOff;
            c.came = came;
            c.latest = latest;
            c.setting = setting;
            c.fliesCome = fliesCome;
            return c;
        }

        int moves() {
            int s = 0;
            for (Frog f : frogs) s += f.moves;
            return s;
        }

        int eaten() {
            int s = 0;
            for (Frog f : frogs) s += f.ate;
            return s;
        }

        int onPads() {
            int s = 0;
            for (Wheel w : wheels) for (int n : w.padFlies) s += n;
            return s;
        }

        int place(Frog f) {
            Wheel w = wheels.get(f.wheel);
            return Math.floorMod(f.pad + w.r, w.n);
        }

        int sitting(int w, int place) {
            for (int i = 0; i < frogs.size(); i++) {
                if (frogs.get(i).wheel == w && place(frogs.get(i)) == place) return i;
            }
            return -1;
        }

        int load(int w) {
            int s = 0;
            for (Frog f : frogs) if (f.wheel == w) s += f.weight;
            return s;
        }

        void checkWheel(int w) {
            if (w < 0 || w >= wheels.size()) throw new IndexOutOfBoundsException();
        }

        void checkPlace(int w, int p) {
            checkWheel(w);
            if (p < 0 || p >= wheels.get(w).n) throw new IndexOutOfBoundsException();
        }

        void checkFrog(int f) {
            if (f < 0 || f >= frogs.size()) throw new IndexOutOfBoundsException();
        }

        void checkLine(int l) {
            if (l < 0 || l >= lines.size()) throw new IndexOutOfBoundsException();
        }

        int wheel(int n, int notch, int strength) {
            checkRange(n, 3, 5);
            checkRange(notch, -4, 4);
            checkRange(strength, 0, 30);
            if (wheels.size() == 3) throw new IllegalStateException();
            Wheel w = new Wheel();
            w.n = n;
            w.notch = notch;
            w.strength = strength;
            w.padFlies = new int[n];
            wheels.add(w);
            return wheels.size() - 1;
        }

        int line(int w, int p, int w2, int p2) {
            checkPlace(w, p);
            checkPlace(w2, p2);
            if (w == w2) throw new IllegalArgumentException();
            if (lines.size() == 8) throw new IllegalStateException();
            lines.add(new int[] {w, p, w2, p2});
            return lines.size() - 1;
        }

        int frog(int w, int p, int weight) {
            checkPlace(w, p);
            checkRange(weight, 1, 9);
            if (sitting(w, p) >= 0 || frogs.size() == 5) throw new IllegalStateException();
            Frog f = new Frog();
            f.weight = weight;
            f.wheel = w;
            f.pad = wheels.get(w).pad(p);
            frogs.add(f);
            return frogs.size() - 1;
        }

        int flies(int w, int p, int n) {
            checkPlace(w, p);
            checkRange(n, 1, 9);
            Wheel it = wheels.get(w);
            for (int i = 0; i < n; i++) oneFly(it, it.pad(p));
            return it.padFlies[it.pad(p)];
        }

        void oneFly(Wheel w, int pad) {
            came++;
            if (w.padFlies[pad] < 9) w.padFlies[pad]++;
            else goneOff++;
        }

        int why(int f, int l) {
            checkFrog(f);
            checkLine(l);
            int[] end = otherEnd(frogs.get(f), lines.get(l));
            return end == null ? 1 : whyNotTo(f, end[0], end[1]);
        }

        int[] otherEnd(Frog f, int[] line) {
            int p = place(f);
            if (line[0] == f.wheel && line[1] == p) return new int[] {line[2], line[3]};
            if (line[2] == f.wheel && line[3] == p) return new int[] {line[0], line[1]};
            return null;
        }

        int whyNotTo(int f, int w, int p) {
            if (sitting(w, p) >= 0) return 2;
            return setting == 1 && latest == f ? 3 : 0;
        }

        int leap(int f, int l) {
            int reason = why(f, l);
            if (reason != 0) return reason;
            Frog it = frogs.get(f);
            int from = it.wheel;
            int[] end = otherEnd(it, lines.get(l));
            come(it, end[0], end[1]);
            Wheel left = wheels.get(from);
            if (load(from) <= left.strength) {
                left.r = Math.floorMod(left.r + left.notch, left.n);
                left.leapTurns++;
            }
            moved(f);
            return 0;
        }

        int hop(int f, int side) {
            checkFrog(f);
            if (Math.abs((long) side) != 1) throw new IllegalArgumentException();
            Frog it = frogs.get(f);
            int to = Math.floorMod(place(it) + side, wheels.get(it.wheel).n);
            int reason = whyNotTo(f, it.wheel, to);
            if (reason != 0) return reason;
            come(it, it.wheel, to);
            moved(f);
            return 0;
        }

        void come(Frog f, int w, int p) {
            Wheel it = wheels.get(w);
            f.wheel = w;
            f.pad = it.pad(p);
            f.ate += it.padFlies[f.pad];
            it.padFlies[f.pad] = 0;
        }

        void moved(int f) {
            frogs.get(f).moves++;
            latest = f;
            if (!fliesCome) return;
            int m = moves();
            int w = m % wheels.size();
            int p = m % wheels.get(w).n;
            int there = sitting(w, p);
            if (there >= 0) {
                came++;
                frogs.get(there).ate++;
            } else {
                oneFly(wheels.get(w), wheels.get(w).pad(p));
            }
        }

        int turn(int w, int k) {
            checkWheel(w);
            checkRange(k, -4, 4);
            Wheel it = wheels.get(w);
            it.r = Math.floorMod(it.r + k, it.n);
            return it.r;
        }

        /** The states to which this frog alone can go on by one move. */
        List<State> next(int f) {
            List<State> all = new ArrayList<>();
            for (int l = -2; l < lines.size(); l++) {
                State c = copy();
                int reason = l < 0 ? c.hop(f, 2 * l + 3) : c.leap(f, l);
                if (reason == 0) all.add(c);
            }
            return all;
        }

        /** As now, but with setting 0 as 0, and with no flies to come. */
        State quiet() {
            State c = copy();
            c.setting = 0;
            c.fliesCome = false;
            return c;
        }

        String key(int f) {
            StringBuilder s = new StringBuilder();
            for (Wheel w : wheels) s.append(w.r).append(' ');
            return s.append(frogs.get(f).wheel).append(' ').append(frogs.get(f).pad).toString();
        }
    }

    static void checkRange(int v, int from, int to) {
        if (v < from || v > to) throw new IllegalArgumentException();
    }

    private final StringBuilder text = new StringBuilder();
    private State now = new State();
    private final ArrayDeque<State> remembered = new ArrayDeque<>();
    private final State[] saved = new State[2];

    private void remember(State before) {
        remembered.addLast(before);
        if (remembered.size() > 14) remembered.removeFirst();
    }

    int append(int c) {
        checkRange(c, 0, 255);
        if (text.length() == 120) throw new IllegalStateException();
        text.append((char) c);
        return text.length();
    }

    int clearText() {
        int before = text.length();
        text.setLength(0);
        return before;
    }

    int errorPosition() {
        if (POND.matcher(text).matches()) return -1;
        for (int k = text.length(); k > 0; k--) {
            Matcher m = POND.matcher(text.substring(0, k));
            if (m.matches() || m.hitEnd()) return k;
        }
        return 0;
    }

    int load() {
        if (errorPosition() != -1) throw new IllegalStateException();
        now = new State();
        remembered.clear();
        saved[0] = null;
        saved[1] = null;
        int leftOut = 0;
        Matcher m = Pattern.compile(COMMAND).matcher(text.substring(1));
        while (m.find()) {
            try {
                if (command(m.group()) != 0) leftOut++;
            } catch (RuntimeException e) {
                leftOut++;
            }
        }
        return leftOut;
    }

    private int command(String s) {
        int[] d = new int[6];
        for (int i = 1; i < s.length(); i++) d[i] = s.charAt(i) - '0';
        char letter = s.charAt(0);
        if (letter == 'j') return now.leap(d[1], d[2]);
        if (letter == 'h') return now.hop(d[1], s.charAt(2) == '+' ? 1 : -1);
        if (letter == 'w') now.wheel(d[1], d[2] - 4, Integer.parseInt(s.substring(3)));
        if (letter == 'l') now.line(d[1], d[2], d[3], d[4]);
        if (letter == 'f') now.frog(d[1], d[2], d[3]);
        if (letter == 'y') now.flies(d[1], d[2], d[3]);
        if (letter == 't') now.turn(d[1], d[2]);
        return 0;
    }

    int about(int what) {
        checkRange(what, 0, 10);
        int leapers = 0;
        for (int f = 0; f < now.frogs.size(); f++) {
            boolean can = false;
            for (int l = 0; l < now.lines.size(); l++) can |= now.why(f, l) == 0;
            if (can) leapers++;
        }
        return new int[] {now.wheels.size(), now.lines.size(), now.frogs.size(), now.moves(), now.onPads(),
            now.eaten(), now.goneOff, now.came, now.latest, now.setting, leapers}[what];
    }

    int wheelOf(int w, int what) {
        now.checkWheel(w);
        checkRange(what, 0, 7);
        Wheel it = now.wheels.get(w);
        int flies = 0;
        for (int n : it.padFlies) flies += n;
        int period = 1;
        while (period * it.notch % it.n != 0) period++;
        return new int[] {it.n, it.notch, it.strength, it.r, now.load(w), flies, period, it.leapTurns}[what];
    }

    int placeOf(int w, int p, int what) {
        now.checkPlace(w, p);
        checkRange(what, 0, 3);
        int ends = 0;
        for (int[] l : now.lines) {
            if (l[0] == w && l[1] == p) ends++;
            if (l[2] == w && l[3] == p) ends++;
        }
        Wheel it = now.wheels.get(w);
        return new int[] {it.pad(p), it.padFlies[it.pad(p)], now.sitting(w, p), ends}[what];
    }

    int frogOf(int f, int what) {
        now.checkFrog(f);
        checkRange(what, 0, 5);
        Frog it = now.frogs.get(f);
        return new int[] {it.weight, it.wheel, it.pad, now.place(it), it.ate, it.moves}[what];
    }

    int lineOf(int l, int what) {
        now.checkLine(l);
        checkRange(what, 0, 3);
        return now.lines.get(l)[what];
    }

    int wheel(int n, int notch, int strength) {
        State before = now.copy();
        int answer = now.wheel(n, notch, strength);
        remember(before);
        return answer;
    }

    int line(int w, int p, int w2, int p2) {
        State before = now.copy();
        int answer = now.line(w, p, w2, p2);
        remember(before);
        return answer;
    }

    int frog(int w, int p, int weight) {
        State before = now.copy();
        int answer = now.frog(w, p, weight);
        remember(before);
        return answer;
    }

    int flies(int w, int p, int n) {
        State before = now.copy();
        int answer = now.flies(w, p, n);
        remember(before);
        return answer;
    }

    int leap(int f, int l) {
        State before = now.copy();
        int answer = now.leap(f, l);
        remember(before);
        return answer;
    }

    int hop(int f, int side) {
        State before = now.copy();
        int answer = now.hop(f, side);
        remember(before);
        return answer;
    }

    int turn(int w, int k) {
        State before = now.copy();
        int answer = now.turn(w, k);
        remember(before);
        return answer;
    }

    int set(int v) {
        checkRange(v, 0, 1);
        remember(now.copy());
        int before = now.setting;
        now.setting = v;
        return before;
    }

    int undo() {
        if (remembered.isEmpty()) throw new IllegalStateException();
        now = remembered.removeLast();
        return remembered.size();
    }

    int why(int f, int l) {
        return now.why(f, l);
    }

    /** The fewest moves to each place that can be reached: by wheel * 5 + place. */
    private Map<Integer, Integer> reached(int f) {
        Map<Integer, Integer> moves = new HashMap<>();
        Set<String> seen = new HashSet<>();
        List<State> wave = new ArrayList<>();
        wave.add(now.quiet());
        seen.add(wave.get(0).key(f));
        for (int m = 0; !wave.isEmpty(); m++) {
            List<State> nextWave = new ArrayList<>();
            for (State s : wave) {
                Frog it = s.frogs.get(f);
                moves.putIfAbsent(it.wheel * 5 + s.place(it), m);
                for (State n : s.next(f)) if (seen.add(n.key(f))) nextWave.add(n);
            }
            wave = nextWave;
        }
        return moves;
    }

    int fewest(int f, int w, int p, int way) {
        now.checkFrog(f);
        now.checkPlace(w, p);
        checkRange(way, 0, 1);
        return reached(f).getOrDefault(w * 5 + p, -1);
    }

    int couldBe(int f, int w) {
        now.checkFrog(f);
        now.checkWheel(w);
        int set = 0;
        for (int spot : reached(f).keySet()) if (spot / 5 == w) set |= 1 << spot % 5;
        return set;
    }

    int mostFlies(int f, int n) {
        now.checkFrog(f);
        checkRange(n, 1, 4);
        return most(now.quiet(), f, n) - now.frogs.get(f).ate;
    }

    private static int most(State s, int f, int n) {
        int best = s.frogs.get(f).ate;
        if (n > 0) for (State next : s.next(f)) best = Math.max(best, most(next, f, n - 1));
        return best;
    }

    int runScript(int n, long script) {
        checkRange(n, 1, 3);
        if (script < 0 || Long.toString(script).length() > 5 * n) throw new IllegalArgumentException();
        StringBuilder digits = new StringBuilder(Long.toString(script));
        while (digits.length() < 5 * n) digits.insert(0, '0');
        State trial = now.copy();
        for (int i = 0; i < n; i++) {
            boolean good;
            try {
                good = succeeds(trial, digits.substring(5 * i, 5 * i + 5));
            } catch (RuntimeException e) {
                good = false;
            }
            if (!good) return i;
        }
        return -1;
    }

    private static boolean succeeds(State s, String g) {
        int[] d = new int[6];
        for (int i = 1; i <= 5; i++) d[i] = g.charAt(i - 1) - '0';
        int ll = Integer.parseInt(g.substring(2, 4));
        int nn = Integer.parseInt(g.substring(3, 5));
        if (g.matches("1...0")) return s.leap(d[2], ll) == 0;
        if (g.matches("2.[01]00")) return s.hop(d[2], d[3] == 1 ? 1 : -1) == 0;
        if (g.matches("3.00.")) {
            s.turn(d[2], d[5] - 4);
            return true;
        }
        if (g.matches("4...0")) {
            s.checkFrog(d[2]);
            s.checkPlace(d[3], d[4]);
            return s.sitting(d[3], d[4]) == d[2];
        }
        if (g.matches("5.00.")) {
            s.checkWheel(d[2]);
            return s.wheels.get(d[2]).r == d[5];
        }
        if (g.matches("600..")) return s.eaten() >= nn;
        if (g.matches("7..0.")) {
            s.checkPlace(d[2], d[3]);
            Wheel w = s.wheels.get(d[2]);
            return w.padFlies[w.pad(d[3])] >= d[5];
        }
        if (g.matches("8....")) return s.why(d[2], ll) == d[5];
        if (g.matches("9.0..")) {
            s.checkFrog(d[2]);
            return s.frogs.get(d[2]).ate >= nn;
        }
        return false;
    }

    int simulate(long seed, int m) {
        checkRange(m, 1, 60);
        State trial = now.copy();
        long x = seed;
        for (int i = 0; i < m; i++) {
            x = x * 6364136223846793005L + 1442695040888963407L;
            int r = (int) (x >>> 33);
            try {
                simulated(trial, r / 16, r % 16);
            } catch (RuntimeException e) {
                continue;
            }
        }
        return 1000 * (trial.moves() - now.moves()) + Math.min(999, trial.eaten() - now.eaten());
    }

    private static void simulated(State s, int q, int kind) {
        switch (kind) {
            case 0 -> s.wheel(3 + q % 3, q / 4 % 9 - 4, q / 64 % 31);
            case 1, 2 -> s.line(q % 3, q / 4 % 5, q / 32 % 3, q / 128 % 5);
            case 3 -> s.frog(q % 3, q / 4 % 5, 1 + q / 32 % 9);
            case 4 -> s.flies(q % 3, q / 4 % 5, 1 + q / 32 % 9);
            case 5 -> s.turn(q % 3, q / 4 % 9 - 4);
            case 6, 7, 8, 9 -> s.hop(q % 5, 2 * (q / 8 % 2) - 1);
            default -> s.leap(q % 5, q / 8 % 8);
        }
    }

    int save(int slot) {
        if (slot != 0 && slot != 1) throw new IndexOutOfBoundsException();
        saved[slot] = now.copy();
        return now.moves();
    }

    int restore(int slot) {
        if (slot != 0 && slot != 1) throw new IndexOutOfBoundsException();
        if (saved[slot] == null) throw new IllegalStateException();
        now = saved[slot].copy();
        remembered.clear();
        return now.moves();
    }
}
