import java.lang.management.ManagementFactory;

/** All calls of a run live in one room, so the dearest calls must make no objects. */
public final class RoomTest {
    private static long made() {
        return ((com.sun.management.ThreadMXBean) ManagementFactory.getThreadMXBean()).getCurrentThreadAllocatedBytes();
    }

    private static int calls(RiddleMill mill, int rounds) {
        int sum = 0;
        for (int round = 1; round <= rounds; round++) {
            sum += mill.make(round * 1234567, 1 + round % 5) + mill.count(1000000) + mill.answer(10) + mill.prove();
            sum += mill.rating() + (mill.about(2) > 0 && mill.needed(0) ? 1 : 0);
            sum += mill.name(10, 0x616e6eL + round % 5) ? mill.print(0) : 0;
            sum += mill.type(0x616e6e2069732030L) + mill.shown(0) + mill.step(0, 0) + mill.may(10);
        }
        return sum;
    }

    public static void main(String[] args) {
        for (int size : new int[] {31, 43, 52}) {
            RiddleMill mill = new RiddleMill(size / 10, size % 10);
            calls(mill, 3);
            long before = made();
            calls(mill, 35);
            long bytes = made() - before;
            Check.isTrue("35 rounds of " + size + " made " + bytes + " bytes", bytes < 20000);
        }
        long before = made();
        new RiddleMill(4, 3);
        long bytes = made() - before;
        Check.isTrue("a new object took " + bytes + " bytes", bytes < 20000);
        Check.done();
    }
}
