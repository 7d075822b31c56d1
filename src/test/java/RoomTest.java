import java.lang.management.ManagementFactory;

/**
 * All calls of a run live in one room: 512 of the dearest calls must leave
 * next to nothing there, since every row is made in the constructor.
 */
final class RoomTest {
    private static final com.sun.management.ThreadMXBean THREADS =
        (com.sun.management.ThreadMXBean) ManagementFactory.getThreadMXBean();
    private static final Checks checks = new Checks("RoomTest");

    private interface Calls {
        void make(LilyWheels x, int i);
    }

    public static void main(String[] args) {
        LilyWheels[] kept = new LilyWheels[2];
        long made = bytesOf(() -> kept[0] = new LilyWheels());
        made = bytesOf(() -> kept[1] = new LilyWheels());
        checks.due("an object takes " + made + " bytes", made < 100000);
        run("fewest by waves", (x, i) -> x.fewest(0, i % 3, i % 3, 0));
        run("fewest by corrections", (x, i) -> x.fewest(0, i % 3, i % 3, 1));
        run("couldBe", (x, i) -> x.couldBe(0, i % 3));
        run("mostFlies", (x, i) -> x.mostFlies(0, 4));
        run("simulate", (x, i) -> x.simulate(i, 60));
        run("runScript", (x, i) -> x.runScript(3, 100002010020000L));
        run("hop", (x, i) -> x.hop(0, 1));
        run("undo", (x, i) -> {
            x.turn(0, 1);
            x.undo();
        });
        run("save and restore", (x, i) -> {
            x.save(i % 2);
            x.restore(i % 2);
        });
        run("load", (x, i) -> x.load());
        run("about", (x, i) -> x.about(i % 11));
        checks.end();
    }

    private static void run(String name, Calls calls) {
        LilyWheels x = new LilyWheels();
        for (char c : "Pw5130w5230w5330l0010l0120l1121l2203l1304f001f221y119y039".toCharArray()) {
            x.append(c);
        }
        x.load();
        calls.make(x, 0);
        long bytes = bytesOf(() -> {
            for (int i = 0; i < 512; i++) {
                calls.make(x, i);
            }
        });
        checks.due("512 times " + name + " take " + bytes + " bytes", bytes < 20000);
    }

    private static long bytesOf(Runnable work) {
        long before = THREADS.getCurrentThreadAllocatedBytes();
        work.run();
        return THREADS.getCurrentThreadAllocatedBytes() - before;
    }
}
