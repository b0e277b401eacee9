import java.lang.management.ManagementFactory;
import java.util.Random;

/** No call throws, whatever the arguments and however many calls; a run makes little. */
public final class LimitsTest {
    private static final int[] EDGES = {Integer.MIN_VALUE, -2, -1, 0, 1, 2, 3, 4, 5, 6, 7, 100, Integer.MAX_VALUE};
    private static final long BYTES_A_RUN = 1_000_000L;

    private static void call(ChainVersions x, Random random) {
        int a = EDGES[random.nextInt(EDGES.length)];
        int b = EDGES[random.nextInt(EDGES.length)];
        int c = EDGES[random.nextInt(EDGES.length)];
        switch (random.nextInt(20)) {
            case 0 -> x.put(a, b, c);
            case 1 -> x.get(a, b, c);
            case 2 -> x.retry(a, b);
            case 3 -> x.status(a);
            case 4 -> x.number(a);
            case 5 -> x.value(a);
            case 6 -> x.waiting(a, b);
            case 7 -> x.stop(random.nextInt(20) == 0 ? a : -1);
            case 8 -> x.join();
            case 9 -> x.tick();
            case 10 -> x.adopt(a);
            case 11 -> x.member(a);
            case 12 -> x.epoch(a);
            case 13 -> x.length(a);
            case 14 -> x.settled(a);
            case 15 -> x.version(a, b, c);
            case 16 -> x.look(a, b, c);
            default -> x.deliver(random.nextInt(6), random.nextInt(6));
        }
    }

    private static void anyArguments() {
        Random random = new Random(7);
        for (int run = 0; run < 300; run++) {
            ChainVersions x = new ChainVersions(EDGES[random.nextInt(EDGES.length)]);
            for (int i = 0; i < 3000; i++) {
                call(x, random);
            }
        }
    }

    /** Bytes that one busy run of 512 calls makes, as the virtual machine counts them. */
    private static long bytesOfARun() {
        com.sun.management.ThreadMXBean threads = (com.sun.management.ThreadMXBean) ManagementFactory.getThreadMXBean();
        long before = threads.getCurrentThreadAllocatedBytes();
        ChainVersions x = new ChainVersions(3);
        for (int i = 0; i < 128; i++) {
            x.put(i % 3, i % 4, i);
            x.deliver(0, 1);
            x.deliver(1, 2);
            x.get(i % 2, 0, i % 4);
        }
        return threads.getCurrentThreadAllocatedBytes() - before;
    }

    public static void main(String[] args) {
        Check check = new Check("limits");
        anyArguments();
        bytesOfARun();
        long bytes = bytesOfARun();
        check.due("a run makes " + bytes + " bytes, too many", bytes < BYTES_A_RUN, true);
        check.end();
    }
}
