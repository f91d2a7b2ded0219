import java.lang.management.ManagementFactory;

/** All calls of a run live in one room: what an object and its dearest calls make is counted. */
public final class RoomTest {

    private static final int CALLS = 512;
    // The room is 7.3 million elements: an object may take a tenth, and the calls nearly nothing.
    private static final long MOST_FOR_OBJECT = 730_000L * 4;
    private static final long MOST_FOR_CALLS = 64 * 1024;

    public static void main(String[] args) {
        Checks checks = new Checks();
        runs();
        long before = allocated();
        RingCouncil council = made();
        long made = allocated() - before;
        checks.due("an object takes " + made + " bytes, little enough", made <= MOST_FOR_OBJECT, true);
        before = allocated();
        for (int i = 0; i < CALLS / 16; i++) {
            calls(council, i);
        }
        long used = allocated() - before;
        checks.due("calls take " + used + " bytes, little enough", used <= MOST_FOR_CALLS, true);
        checks.close();
    }

    private static void runs() {
        RingCouncil council = made();
        for (int i = 0; i < 40; i++) {
            calls(council, i);
        }
    }

    private static RingCouncil made() {
        RingCouncil council = new RingCouncil(9);
        for (int room = 0; room < 9; room++) {
            council.elder(room, room == 4 ? 1 : 0, room);
        }
        Checks.text(council, "keep kept*2+gotleft+gotright+2; left kept; right if hour=3?kept:-1 end; rope me=hour;");
        council.by(0);
        return council;
    }

    private static void calls(RingCouncil council, int i) {
        council.hours(20);
        council.undo();
        council.image();
        council.back();
        council.start();
        council.agrees(1);
        council.holds(3, 2);
        council.states(6, i % 3);
        council.bad(3, 1, 0, 0, 1);
        council.told(0, -1, -1);
        council.suspects(i % 3);
        council.slips(20, 3, 9, -1);
        council.learns(3, 20, 4);
        council.feed(0x6B656570, 0x20312B32, 0x2A284040, 0, 0);
        council.text();
        council.of(3, 3);
    }

    private static long allocated() {
        com.sun.management.ThreadMXBean threads =
            (com.sun.management.ThreadMXBean) ManagementFactory.getThreadMXBean();
        return threads.getThreadAllocatedBytes(Thread.currentThread().getId());
    }
}
