import java.lang.management.ManagementFactory;

/** All calls of a run live in one room: no call makes an object, and an object is small. */
public final class RoomTest {
    private static final int OBJECTS = 100;
    private static final long MOST_BYTES_AN_OBJECT = 100_000;
    private static final long MOST_BYTES_OF_CALLS = 2_000;

    public static void main(String[] args) {
        TaughtRemotes[] made = new TaughtRemotes[OBJECTS];
        calls(Due.street("R9k000000n3d000000"), 8);
        long before = bytes();
        for (int i = 0; i < OBJECTS; i++) {
            made[i] = new TaughtRemotes();
        }
        long ofObjects = bytes() - before;
        atMost(MOST_BYTES_AN_OBJECT * OBJECTS, ofObjects, "bytes of new objects");
        TaughtRemotes t = Due.street("R9k000000n3d000000");
        before = bytes();
        calls(t, 25);
        atMost(MOST_BYTES_OF_CALLS, bytes() - before, "bytes of calls");
        Due.end("RoomTest");
    }

    private static void calls(TaughtRemotes t, int rounds) {
        for (int i = 0; i < rounds; i++) {
            t.enter(0, 0, i);
            t.teach(0, 0, 8, 5);
            t.press(8, 5);
            t.save(i % 2);
            t.about(8);
            t.about(9);
            t.record(0, 6);
            t.common(0, 0, 8, 5);
            t.handed(0, 0, 8);
            t.bestTeacher(4, 0);
            t.leastTolerance(0);
            t.runScript(3, 100812850090000L);
            t.simulate(0, 0, i, 60);
            t.restore(i % 2);
            t.set(0, 3);
            t.undo();
            t.errorPosition();
            if (i % 10 == 9) {
                t.load();
            }
        }
    }

    private static long bytes() {
        com.sun.management.ThreadMXBean threads =
                (com.sun.management.ThreadMXBean) ManagementFactory.getThreadMXBean();
        return threads.getThreadAllocatedBytes(Thread.currentThread().getId());
    }

    private static void atMost(long most, long got, String what) {
        Due.same("true", "" + (got <= most), what + ", " + got + " of at most " + most + ",");
    }
}
