import java.lang.management.ManagementFactory;

/** All calls of a run live in one room: calls make nothing, and an object is small. */
public final class RoomTest {
    private static final long OBJECT_BYTES = 500_000;
    private static final long CALLS_BYTES = 20_000;

    public static void main(String[] args) {
        int wrong = 0;
        com.sun.management.ThreadMXBean threads =
                (com.sun.management.ThreadMXBean) ManagementFactory.getThreadMXBean();
        play(new PostHouses());
        long before = threads.getCurrentThreadAllocatedBytes();
        PostHouses x = new PostHouses();
        long made = threads.getCurrentThreadAllocatedBytes();
        play(x);
        long after = threads.getCurrentThreadAllocatedBytes();
        if (made - before > OBJECT_BYTES) {
            wrong++;
            System.out.println("an object takes " + (made - before) + " bytes");
        }
        if (after - made > CALLS_BYTES) {
            wrong++;
            System.out.println("a run of calls takes " + (after - made) + " bytes");
        }
        System.out.println(wrong == 0 ? "the room is enough" : "the room is not enough");
        if (wrong != 0) {
            System.exit(1);
        }
    }

    private static void play(PostHouses x) {
        for (int i = 0; i < 40; i++) {
            x.hole(i % 5 == 4 ? 1 : 0, 100 + i % 6 * 20 + i % 3, 100 + i / 6 * 20, 30, i % 4);
        }
        x.trench(0, 0, 200, 499, 1);
        // kind{slack 5,miss 4}
        x.feed(0x6b696e64, 0x7b736c61, 0x636b2035, 0x2c6d6973, 0x7320347d);
        x.kinds();
        for (int i = 0; i < 40; i++) {
            int week = i % 5;
            x.cut(i, (i + 7) % 40, week);
            x.date(i, 500, 900, week);
            x.house(week, i % 24, 10);
            x.place(week, i % 24, 1, 1);
            x.strength(0, week);
            x.phases(week, 1);
            x.start(week, i % 24, 0);
            x.stands(week, 600, 1);
            x.fences(week);
            x.led(i, week, 1);
            x.error(i % 6);
        }
    }
}
