import java.util.Random;

/** Random runs of calls, each answer and exception compared with PondModel's. */
final class ModelTest {
    private interface Call {
        long answer();
    }

    private final Checks checks = new Checks("ModelTest");
    private final Random random;
    private final LilyWheels x = new LilyWheels();
    private final PondModel model = new PondModel();
    private final StringBuilder told = new StringBuilder();

    private ModelTest(long seed) {
        random = new Random(seed);
    }

    public static void main(String[] args) {
        int runs = args.length > 0 ? Integer.parseInt(args[0]) : 600;
        long calls = 0;
        for (int run = 0; run < runs; run++) {
            ModelTest test = new ModelTest(run);
            if (!test.run(run)) {
                System.out.println("ModelTest: run " + run + " went wrong:\n" + test.told);
                System.exit(1);
            }
            calls += 512;
        }
        System.out.println("ModelTest: " + calls + " calls as the model answers");
    }

    private static String outcome(Call call) {
        try {
            return Long.toString(call.answer());
        } catch (RuntimeException e) {
            return e.getClass().getName();
        }
    }

    private boolean same(String call, Call own, Call models) {
        String got = outcome(own);
        String want = outcome(models);
        told.append(call).append(" answered ").append(got);
        if (!got.equals(want)) {
            told.append(", due is ").append(want);
            return false;
        }
        told.append('\n');
        return true;
    }

    private boolean run(int run) {
        int made = 0;
        // Half of the runs start from a pond that has all there can be.
        while (made < 512) {
            boolean good = run % 2 == 0 && made < 25 ? build(made) : call();
            if (!good) {
                return false;
            }
            made++;
        }
        return true;
    }

    private boolean build(int made) {
        if (made < 3) {
            return wheel(3 + random.nextInt(3), random.nextInt(9) - 4, random.nextInt(31));
        }
        if (made < 13) {
            return line(random.nextInt(3), random.nextInt(5), random.nextInt(3), random.nextInt(5));
        }
        if (made < 19) {
            return frog(random.nextInt(3), random.nextInt(5), 1 + random.nextInt(9));
        }
        return flies(random.nextInt(3), random.nextInt(5), 1 + random.nextInt(9));
    }

    /** Mostly within 0 to n - 1, at times beside it, seldom far off. */
    private int some(int n) {
        int kind = random.nextInt(60);
        if (kind == 0) {
            return random.nextInt();
        }
        if (kind == 1) {
            return random.nextBoolean() ? Integer.MIN_VALUE : Integer.MAX_VALUE;
        }
        if (kind < 5) {
            return random.nextInt(n + 4) - 2;
        }
        return random.nextInt(n);
    }

    private boolean wheel(int n, int notch, int strength) {
        return same("wheel(" + n + ", " + notch + ", " + strength + ")",
            () -> x.wheel(n, notch, strength), () -> model.wheel(n, notch, strength));
    }

    private boolean line(int w, int p, int w2, int p2) {
        return same("line(" + w + ", " + p + ", " + w2 + ", " + p2 + ")",
            () -> x.line(w, p, w2, p2), () -> model.line(w, p, w2, p2));
    }

    private boolean frog(int w, int p, int weight) {
        return same("frog(" + w + ", " + p + ", " + weight + ")",
            () -> x.frog(w, p, weight), () -> model.frog(w, p, weight));
    }

    private boolean flies(int w, int p, int n) {
        return same("flies(" + w + ", " + p + ", " + n + ")",
            () -> x.flies(w, p, n), () -> model.flies(w, p, n));
    }

    private boolean call() {
        int kind = random.nextInt(100);
        if (kind < 25) {
            return move();
        }
        if (kind < 45) {
            return action();
        }
        if (kind < 75) {
            return look();
        }
        if (kind < 90) {
            return think();
        }
        return keep();
    }

    private boolean move() {
        int f = some(5);
        if (random.nextBoolean()) {
            int side = random.nextInt(20) == 0 ? some(3) : 2 * random.nextInt(2) - 1;
            return same("hop(" + f + ", " + side + ")", () -> x.hop(f, side), () -> model.hop(f, side));
        }
        int l = some(8);
        return same("leap(" + f + ", " + l + ")", () -> x.leap(f, l), () -> model.leap(f, l));
    }

    private boolean action() {
        int a = some(3);
        int b = some(5);
        switch (random.nextInt(8)) {
            case 0:
                return wheel(some(3) + 3, some(9) - 4, some(31));
            case 1:
                return line(a, b, some(3), some(5));
            case 2:
                return frog(a, b, some(9) + 1);
            case 3:
                return flies(a, b, some(9) + 1);
            case 4:
                int k = some(9) - 4;
                return same("turn(" + a + ", " + k + ")", () -> x.turn(a, k), () -> model.turn(a, k));
            case 5:
                int v = some(2);
                return same("set(" + v + ")", () -> x.set(v), () -> model.set(v));
            case 6:
                return same("undo()", x::undo, model::undo);
            default:
                return move();
        }
    }

    private boolean look() {
        int a = some(3);
        int b = some(5);
        switch (random.nextInt(6)) {
            case 0:
                int what = some(11);
                return same("about(" + what + ")", () -> x.about(what), () -> model.about(what));
            case 1:
                int ofWheel = some(8);
                return same("wheelOf(" + a + ", " + ofWheel + ")",
                    () -> x.wheelOf(a, ofWheel), () -> model.wheelOf(a, ofWheel));
            case 2:
                int ofPlace = some(4);
                return same("placeOf(" + a + ", " + b + ", " + ofPlace + ")",
                    () -> x.placeOf(a, b, ofPlace), () -> model.placeOf(a, b, ofPlace));
            case 3:
                int ofFrog = some(6);
                return same("frogOf(" + b + ", " + ofFrog + ")",
                    () -> x.frogOf(b, ofFrog), () -> model.frogOf(b, ofFrog));
            case 4:
                int l = some(8);
                int ofLine = some(4);
                return same("lineOf(" + l + ", " + ofLine + ")",
                    () -> x.lineOf(l, ofLine), () -> model.lineOf(l, ofLine));
            default:
                int m = some(8);
                return same("why(" + b + ", " + m + ")", () -> x.why(b, m), () -> model.why(b, m));
        }
    }

    private boolean think() {
        int f = some(5);
        int w = some(3);
        switch (random.nextInt(16)) {
            case 0:
                int p = some(5);
                int way = some(2);
                return same("fewest(" + f + ", " + w + ", " + p + ", " + way + ")",
                    () -> x.fewest(f, w, p, way), () -> model.fewest(f, w, p, way));
            case 1:
                return same("couldBe(" + f + ", " + w + ")", () -> x.couldBe(f, w), () -> model.couldBe(f, w));
            case 2:
            case 3:
                int n = some(4) + 1;
                return same("mostFlies(" + f + ", " + n + ")", () -> x.mostFlies(f, n), () -> model.mostFlies(f, n));
            case 4:
            case 5:
                long seed = random.nextLong();
                int m = some(60) + 1;
                return same("simulate(" + seed + ", " + m + ")", () -> x.simulate(seed, m), () -> model.simulate(seed, m));
            default:
                int many = random.nextInt(30) == 0 ? some(4) : 1 + random.nextInt(3);
                long script = script(many);
                return same("runScript(" + many + ", " + script + ")",
                    () -> x.runScript(many, script), () -> model.runScript(many, script));
        }
    }

    private long script(int n) {
        if (random.nextInt(30) == 0) {
            return random.nextLong() >> random.nextInt(64);
        }
        long script = 0;
        for (int i = 0; i < Math.min(3, Math.max(1, n)); i++) {
            script = script * 100000 + group();
        }
        return script;
    }

    private int group() {
        int d = 10000 * random.nextInt(10) + 1000 * random.nextInt(4);
        switch (d / 10000) {
            case 1: d += 10 * random.nextInt(9); break;
            case 2: d += 100 * random.nextInt(2); break;
            case 3: d += random.nextInt(10); break;
            case 4: d += 100 * random.nextInt(3) + 10 * random.nextInt(5); break;
            case 5: d += random.nextInt(5); break;
            case 6: d = 60000 + random.nextInt(100); break;
            case 7: d += 100 * random.nextInt(5) + random.nextInt(5); break;
            case 8: d += random.nextInt(80); break;
            case 9: d += random.nextInt(20); break;
            default: break;
        }
        if (random.nextInt(12) == 0) {
            int unit = new int[] {1, 10, 100, 1000}[random.nextInt(4)];
            d = d / (unit * 10) * (unit * 10) + random.nextInt(10) * unit + d % unit;
        }
        return d;
    }

    private static final String[] PIECES = {"w540%s", "l0%s11", "f0%s3", "y1%s9", "j0%s", "h0+", "h1-", "t1%s",
        "w3830", "w3831", "w5499", "l0000", "l1020", "l2112", "f114", "f001", "y009", "j10", "j21", "h2+", "h3,",
        "w4005", "w5812", "w3329", "t04", "t25", "f050", "y340", "j58", "x", "P", "w", "l01"};

    private boolean keep() {
        int slot = some(2);
        switch (random.nextInt(9)) {
            case 0:
            case 1:
            case 2:
                return same("save(" + slot + ")", () -> x.save(slot), () -> model.save(slot));
            case 3:
                return same("restore(" + slot + ")", () -> x.restore(slot), () -> model.restore(slot));
            case 4:
                return same("errorPosition()", x::errorPosition, model::errorPosition);
            case 5:
                return random.nextInt(4) != 0 || same("load()", x::load, model::load);
            case 6:
                return random.nextInt(4) != 0 || same("clearText()", x::clearText, model::clearText);
            case 7:
                int c = some(256);
                return random.nextInt(8) != 0 || same("append(" + c + ")", () -> x.append(c), () -> model.append(c));
            default:
                return append();
        }
    }

    private boolean append() {
        String text = told.length() == 0 ? "P" : "";
        if (random.nextInt(4) == 0) {
            if (!same("clearText()", x::clearText, model::clearText)) {
                return false;
            }
            text = "P";
        }
        int pieces = random.nextInt(25);
        for (int i = 0; i < pieces; i++) {
            int good = random.nextInt(40) == 0 ? PIECES.length : 19;
            text += PIECES[random.nextInt(good)].replace("%s", Integer.toString(random.nextInt(5)));
            if (text.endsWith("w5404") || text.endsWith("w5403")) {
                text += "0";
            } else if (text.matches(".*w540[0-4]")) {
                text += random.nextInt(10);
            }
        }
        for (char c : text.toCharArray()) {
            if (!same("append(" + (int) c + ")", () -> x.append(c), () -> model.append(c))) {
                return false;
            }
        }
        if (!same("errorPosition()", x::errorPosition, model::errorPosition)) {
            return false;
        }
        return random.nextInt(3) == 0 || same("load()", x::load, model::load);
    }
}
