import java.lang.management.ManagementFactory;

/** All calls of a run live in one room of some 7.3 million fields and elements: 512 dear calls fit in with ease. */
public final class RoomTest {
    private static final int MOST_BYTES_OF_AN_OBJECT = 2_000_000;
    private static final int MOST_BYTES_OF_CALLS = 20_000_000;

    private RoomTest() {
    }

    public static void main(String[] args) {
        com.sun.management.ThreadMXBean room =
                (com.sun.management.ThreadMXBean) ManagementFactory.getThreadMXBean();
        useAll(new TestVersions(), 20);
        long before = room.getCurrentThreadAllocatedBytes();
        TestVersions test = new TestVersions();
        long made = room.getCurrentThreadAllocatedBytes();
        useAll(test, 480);
        long used = room.getCurrentThreadAllocatedBytes();
        Check.holds("a new object takes little room: " + (made - before), made - before <= MOST_BYTES_OF_AN_OBJECT);
        Check.holds("480 calls take little room: " + (used - made), used - made <= MOST_BYTES_OF_CALLS);
        Check.end("RoomTest");
    }

    private static void useAll(TestVersions test, int calls) {
        for (int i = 0; i < 20; i++) {
            test.add(1 + i % 9, 5, i % 5, 0, i % 6);
        }
        for (int v = 0; v < 6; v++) {
            test.version(v);
        }
        for (int i = 26; i < calls; i += 12) {
            test.unlike(i, 40);
            test.setLines(9 + i % 52);
            test.guess(i % 6, i, 5);
            test.fingerprint();
            test.suspects();
            test.about(i % 20, 3);
            test.parting(i % 20);
            test.mean();
            test.mistaken(0, 5);
            test.forget();
            test.undo();
            test.change(i % 20, 0, 3);
        }
    }
}
