import java.util.Random;
import java.util.Set;
import java.util.TreeSet;

/** All promises: runs of 512 calls, the seeds fixed, against the plain model. */
public final class RandomRunsTest {
    private static final int RUNS = 6000;
    private static final int CALLS = 512;
    private static final String[] NAMES = {"put", "get", "retry", "deliver", "adopt", "tick", "stop", "join", "status",
        "number", "value", "waiting", "member", "epoch", "length", "settled", "version", "look"};
    private static final String[] SEEN_DUE = {
        "put -1", "put -2", "put 0", "put 1", "put 2",
        "get -1", "get -2", "get 0", "get 5", "get 6",
        "retry -1", "retry -2", "retry -3", "retry 0", "retry 1", "retry 2", "retry 3", "retry 4", "retry 5", "retry 6",
        "deliver -1", "deliver -2", "deliver 0", "deliver 1", "deliver 2", "deliver 3", "deliver 4", "deliver 5",
        "status -1", "status 0", "status 1", "status 2", "status 3", "status 4",
        "length 100", "settled 100", "tick 9", "join -1", "join 5", "stop 0", "stop 1", "adopt 0", "adopt 1"};

    private final Random random;
    private final int[] weights = new int[NAMES.length];
    private final Set<String> seen;
    private int weightSum = 0;
    private ChainVersions x;
    private PlainModel model;
    private final int[] a = new int[3];

    private RandomRunsTest(long seed, Set<String> seen) {
        this.random = new Random(seed);
        this.seen = seen;
        // Each run has a habit of its own, so that long logs, many stops and slow links all come about.
        for (int i = 0; i < weights.length; i++) {
            weights[i] = 1 + random.nextInt(4);
        }
        weights[0] = random.nextInt(30);
        weights[1] = random.nextInt(20);
        weights[2] = random.nextInt(12);
        weights[3] = 20 + random.nextInt(80);
        weights[4] = random.nextInt(16);
        weights[5] = random.nextInt(8);
        weights[6] = random.nextInt(3);
        weights[7] = random.nextInt(3);
        for (int w : weights) {
            weightSum += w;
        }
    }

    private int kind() {
        int left = random.nextInt(weightSum);
        int kind = 0;
        while (left >= weights[kind]) {
            left -= weights[kind];
            kind++;
        }
        return kind;
    }

    private int argument(int count) {
        int dice = random.nextInt(100);
        if (dice == 0) {
            return random.nextInt();
        }
        return dice == 1 ? count : dice == 2 ? -1 : random.nextInt(count);
    }

    private int node() {
        return argument(random.nextInt(4) == 0 ? 6 : Math.max(1, model.nodes.size()));
    }

    /** Mostly a link on which something waits, so that the runs get on. */
    private void link() {
        a[0] = node();
        a[1] = node();
        for (int i = 0; i < 40 && model.waiting(a[0], a[1]) <= 0 && random.nextInt(50) != 0; i++) {
            a[0] = random.nextInt(model.nodes.size());
            a[1] = random.nextInt(model.nodes.size());
        }
    }

    private void arguments(String name) {
        a[0] = a[1] = a[2] = 0;
        switch (name) {
            case "put" -> {
                a[0] = argument(3);
                a[1] = argument(4);
                a[2] = random.nextInt();
            }
            case "get" -> {
                a[0] = argument(3);
                a[1] = node();
                a[2] = argument(4);
            }
            case "retry" -> {
                a[0] = argument(3);
                a[1] = node();
            }
            case "deliver" -> link();
            case "waiting" -> {
                a[0] = node();
                a[1] = node();
            }
            case "status", "number", "value" -> a[0] = argument(3);
            case "version", "look" -> {
                a[0] = node();
                a[1] = argument(4);
                a[2] = argument(10);
            }
            case "member" -> a[0] = argument(7);
            default -> a[0] = node();
        }
    }

    private long program(String name) {
        return switch (name) {
            case "put" -> x.put(a[0], a[1], a[2]);
            case "get" -> x.get(a[0], a[1], a[2]);
            case "retry" -> x.retry(a[0], a[1]);
            case "deliver" -> x.deliver(a[0], a[1]);
            case "adopt" -> x.adopt(a[0]) ? 1 : 0;
            case "tick" -> x.tick();
            case "stop" -> x.stop(a[0]) ? 1 : 0;
            case "join" -> x.join();
            case "status" -> x.status(a[0]);
            case "number" -> x.number(a[0]);
            case "value" -> x.value(a[0]);
            case "waiting" -> x.waiting(a[0], a[1]);
            case "member" -> x.member(a[0]);
            case "epoch" -> x.epoch(a[0]);
            case "length" -> x.length(a[0]);
            case "settled" -> x.settled(a[0]);
            case "version" -> x.version(a[0], a[1], a[2]);
            default -> x.look(a[0], a[1], a[2]);
        };
    }

    private long due(String name) {
        return switch (name) {
            case "put" -> model.put(a[0], a[1], a[2]);
            case "get" -> model.get(a[0], a[1], a[2]);
            case "retry" -> model.retry(a[0], a[1]);
            case "deliver" -> model.deliver(a[0], a[1]);
            case "adopt" -> model.adopt(a[0]);
            case "tick" -> model.tick();
            case "stop" -> model.stop(a[0]);
            case "join" -> model.join();
            case "status" -> model.status(a[0]);
            case "number" -> model.number(a[0]);
            case "value" -> model.value(a[0]);
            case "waiting" -> model.waiting(a[0], a[1]);
            case "member" -> model.member(a[0]);
            case "epoch" -> model.epoch(a[0]);
            case "length" -> model.length(a[0]);
            case "settled" -> model.settled(a[0]);
            case "version" -> model.version(a[0], a[1], a[2]);
            default -> model.look(a[0], a[1], a[2]);
        };
    }

    private void run(Check check, long seed) {
        int nodes = random.nextInt(6) - 1;
        x = new ChainVersions(nodes);
        model = new PlainModel(nodes);
        for (int i = 0; i < CALLS; i++) {
            String name = NAMES[kind()];
            arguments(name);
            long due = due(name);
            seen.add(name + " " + due);
            check.due("seed " + seed + ", call " + i + ", " + name + "(" + a[0] + ", " + a[1] + ", " + a[2] + ")",
                program(name), due);
        }
    }

    public static void main(String[] args) {
        Check check = new Check("random runs");
        Set<String> seen = new TreeSet<>();
        for (long seed = 1; seed <= RUNS; seed++) {
            new RandomRunsTest(seed, seen).run(check, seed);
        }
        for (String s : SEEN_DUE) {
            check.due("the runs came to " + s, seen.contains(s), true);
        }
        check.end();
    }
}
