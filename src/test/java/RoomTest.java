import com.sun.management.ThreadMXBean;
import java.lang.management.ManagementFactory;

/** The dearest runs of 512 calls stay far below the room, and longer ones never throw. */
final class RoomTest {
    private static final int CALLS = 512;
    /** 7.3 million fields and elements are 29 million bytes at least. */
    private static final long ROOM = 8_000_000;

    private static final ThreadMXBean threads =
            (ThreadMXBean) ManagementFactory.getThreadMXBean();
    private static int wrong;

    public static void main(String[] args) {
        drawsOfManyRings();
        drawsAndUndos();
        manyStops();
        System.out.println("RoomTest: " + wrong + " runs out of the room");
        if (wrong != 0) {
            System.exit(1);
        }
    }

    private static long begun() {
        return threads.getCurrentThreadAllocatedBytes();
    }

    private static void ended(String run, long begun) {
        long bytes = begun() - begun;
        if (bytes > ROOM) {
            wrong++;
            System.out.println(run + " made " + bytes + " bytes");
        }
    }

    private static int sixty(PurseRing x) {
        x.ring(0, 9, 1, 0);
        for (int i = 0; i < 60; i++) {
            x.seat(0, i, 2, 0);
        }
        x.open(0);
        return 62;
    }

    private static void drawsOfManyRings() {
        long begun = begun();
        PurseRing x = new PurseRing();
        int calls = sixty(x);
        for (int i = 1; i < 40; i++, calls++) {
            x.image(0);
        }
        for (; calls < CALLS; calls++) {
            x.draw(calls % 40);
        }
        ended("draws of many rings", begun);
    }

    private static void drawsAndUndos() {
        long begun = begun();
        PurseRing x = new PurseRing();
        for (int calls = sixty(x); calls < 100 * CALLS; calls += 2) {
            x.draw(0);
            x.undo(0);
        }
        ended("draws and undos", begun);
    }

    private static void manyStops() {
        long begun = begun();
        PurseRing x = new PurseRing();
        for (int calls = sixty(x); calls < 10 * CALLS; calls += 2) {
            x.stop(0, 0);
            x.replace(0, 0, 3);
        }
        for (int i = 1; i < 50; i++) {
            x.image(i - 1);
            x.stop(i, 59);
            x.stops(i, Integer.MAX_VALUE, 0);
        }
        ended("many stops", begun);
    }
}
