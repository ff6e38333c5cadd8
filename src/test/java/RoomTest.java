import java.lang.management.ManagementFactory;

/** What an object takes of the room that all calls of a run share, with the dearest calls as often as it is used. */
public final class RoomTest {
    private static final int CALLS = 512;
    /** Of 600,000 objects and 7.3 million elements; one element has 8 bytes at most, an object's head 16. */
    private static final long MOST_BYTES = 100_000;

    public static void main(String[] args) {
        com.sun.management.ThreadMXBean thread =
                (com.sun.management.ThreadMXBean) ManagementFactory.getThreadMXBean();
        Checks c = new Checks();
        long sum = run();
        long before = thread.getCurrentThreadAllocatedBytes();
        sum += run();
        long bytes = thread.getCurrentThreadAllocatedBytes() - before;
        System.out.println("an object with " + 20 * CALLS + " calls took " + bytes + " bytes");
        c.holds("answers", sum != 0);
        c.holds("room for an object with its calls: " + bytes, bytes <= MOST_BYTES);
        c.close("RoomTest");
    }

    private static long run() {
        PoisonBook x = Checks.told("book 99 9 10;sky 0 9;sky 1 9;sky 5 3;buyer 20 9 0;buyer 9 2 1;buyer 8 1 2;buyer 7 2 3");
        for (int i = 0; i < 6; i++) {
            Checks.rule(x, "buy temper - 9 if still > 3 and not [ met > 2 or sold > 60 ]; buy next - 8");
        }
        x.force(3);
        long sum = 0;
        for (int i = 0; i < CALLS; i++) {
            sum += x.day() + x.sell(i % 4) + x.calm(i % 4, 1) + x.watch(i % 10, i % 4) + x.change(i % 10, i / 10 % 10);
            sum += x.guard(30, 1) + x.best(100, 1) + x.least(i % 4, 60) + x.soothe(60, 0) + x.page(9, 2);
            sum += x.rests(0, 1, 30, 0) + x.ring(0) + x.peak(100, 0) + x.look(0) + x.ruled(1);
            sum += x.summers(10, 60, 50, 0) + x.tells(100, 0) + x.image(i % 4) + x.back(i % 4) + x.undo();
        }
        return sum;
    }
}
