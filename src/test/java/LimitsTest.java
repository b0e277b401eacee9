import java.lang.management.ManagementFactory;
import java.util.Random;

/** No call throws, whatever the arguments and however many calls; a run makes little. */
public final class LimitsTest {
    private static final int[] EDGES = {Integer.MIN_VALUE, -2, -1, 0, 1, 2, 3, 4, 5, 6, 7, 100, Integer.MAX_VALUE};
    /** All that a run may make: 7.3 million fields and elements, each of four bytes at least. */
    private static final long BYTES_A_RUN = 4L * 7_300_000L;

    private static void call(ChainVersions x, Random random) {
        int a = EDGES[random.nextInt(EDGES.length)];
        int b = EDGES[random.nextInt(EDGES.length)];
        int c = EDGES[random.nextInt(EDGES.length)];
        switch (random.nextInt(20)) {
            case 0 -> x.put(a, b, c);
            case 1 -> x.get(a, b, c);
            case 2 -> x.retry(a, b);
            case 3 -> x.status(a);
            case 4 -> x.number(a);
            case 5 -> x.value(a);
            case 6 -> x.waiting(a, b);
            case 7 -> x.stop(random.nextInt(20) == 0 ? a : -1);
            case 8 -> x.join();
            case 9 -> x.tick();
            case 10 -> x.adopt(a);
            case 11 -> x.member(a);
            case 12 -> x.epoch(a);
            case 13 -> x.length(a);
            case 14 -> x.settled(a);
            case 15 -> x.version(a, b, c);
            case 16 -> x.look(a, b, c);
            default -> x.deliver(random.nextInt(6), random.nextInt(6));
        }
    }

    private static void anyArguments() {
        Random random = new Random(7);
        for (int run = 0; run < 300; run++) {
            ChainVersions x = new ChainVersions(EDGES[random.nextInt(EDGES.length)]);
            for (int i = 0; i < 3000; i++) {
                call(x, random);
            }
        }
    }

    /** Writes and reads all the time: 512 calls. */
    private static void busyRun() {
        ChainVersions x = new ChainVersions(3);
        for (int i = 0; i < 128; i++) {
            x.put(i % 3, i % 4, i);
            x.deliver(0, 1);
            x.deliver(1, 2);
            x.get(i % 2, 0, i % 4);
        }
    }

    /** A hundred updates that go to every new node as a copy. */
    private static void copyingRun() {
        ChainVersions x = new ChainVersions(1);
        for (int i = 0; i < 100; i++) {
            x.put(0, i % 4, i);
        }
        for (int last = 1; last < 6; last++) {
            x.join();
            for (int node = 0; node < last; node++) {
                x.adopt(node);
                x.deliver(node, node + 1);
            }
        }
        for (int i = 0; i < 300; i++) {
            x.version(i % 6, i % 4, 9);
        }
    }

    private static long bytesMade() {
        return ((com.sun.management.ThreadMXBean) ManagementFactory.getThreadMXBean()).getCurrentThreadAllocatedBytes();
    }

    public static void main(String[] args) {
        Check check = new Check("limits");
        anyArguments();
        long before = bytesMade();
        busyRun();
        long between = bytesMade();
        copyingRun();
        long after = bytesMade();
        check.due("a busy run makes " + (between - before) + " bytes, too many", between - before < BYTES_A_RUN, true);
        check.due("a run of copies makes " + (after - between) + " bytes, too many", after - between < BYTES_A_RUN,
            true);
        check.end();
    }
}
