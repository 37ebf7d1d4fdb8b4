import java.lang.management.ManagementFactory;

/** What the dearest runs of 512 calls make must stay far inside the room of 7.3 million fields and elements. */
public final class RoomTest {
    private static final long MOST_BYTES = 4L * 7_300_000 / 2;
    private static boolean failed = false;

    public static void main(String[] args) {
        for (int warm = 0; warm < 2; warm++) {
            songsOverAndOver();
        }
        look("songs over and over", RoomTest::songsOverAndOver);
        look("large nights", RoomTest::largeNights);
        look("a new object at each call", RoomTest::newObjects);
        look("small nights on new objects", RoomTest::smallNights);
        if (failed) {
            System.exit(1);
        }
    }

    private static void look(String name, Runnable run) {
        long before = allocated();
        run.run();
        long bytes = allocated() - before;
        System.out.println(name + ": " + bytes + " bytes");
        if (bytes > MOST_BYTES) {
            failed = true;
            System.out.println("too many: " + MOST_BYTES + " at most");
        }
    }

    private static long allocated() {
        return ((com.sun.management.ThreadMXBean) ManagementFactory.getThreadMXBean()).getCurrentThreadAllocatedBytes();
    }

    private static void songsOverAndOver() {
        MixDesk x = new MixDesk();
        for (int call = 0; call < 512; call++) {
            x.song(call % 12, 0, 64, 100, 0);
        }
    }

    private static void largeNights() {
        MixDesk x = new MixDesk();
        for (int s = 0; s < 12; s++) {
            x.song(s, 0, 4, 100, 0);
            x.night(1);
        }
        for (int call = 24; call < 512; call += 2) {
            x.costs(call, 0, 0);
            x.night(1 + call / 2 % 8);
        }
    }

    private static void newObjects() {
        for (int call = 0; call < 512; call++) {
            new MixDesk();
        }
    }

    private static void smallNights() {
        for (int call = 0; call < 512; call += 4) {
            MixDesk x = new MixDesk();
            x.song(0, 0, 64, 100, 0);
            x.song(1, 0, 64, 100, 0);
            x.night(1);
        }
    }
}
