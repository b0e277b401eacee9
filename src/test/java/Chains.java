/** Ways to bring a chain into a state that a test starts from. */
final class Chains {
    private Chains() {
    }

    /** Delivers along the given nodes in turn, each to the next: one message a hop. */
    static void along(Counted x, int... nodes) {
        for (int i = 0; i + 1 < nodes.length; i++) {
            x.deliver(nodes[i], nodes[i + 1]);
        }
    }

    /** Delivers all that can be delivered until nothing moves. */
    static void quiet(Counted x) {
        boolean moved = true;
        while (moved) {
            moved = false;
            for (int from = 0; from < x.made(); from++) {
                for (int to = 0; to < x.made(); to++) {
                    moved |= from != to && x.deliver(from, to) > ChainVersions.EMPTY;
                }
            }
        }
    }

    /** Lets the master's clock go on by count. */
    static void ticks(Counted x, int count) {
        for (int i = 0; i < count; i++) {
            x.tick();
        }
    }

    /** Stops a node and has the master drop it. */
    static void drop(Counted x, int node) {
        x.stop(node);
        ticks(x, 3);
    }

    /** Writes the values 1 up to count by client 0 and settles each at every node. */
    static void writes(Counted x, int key, int count) {
        for (int i = 1; i <= count; i++) {
            x.put(0, key, i);
            quiet(x);
        }
    }

    /** Two nodes; client 0 wrote the values 1 up to count, all done, and none is settled at the head. */
    static Counted withOpen(int count) {
        Counted x = new Counted(2);
        addOpen(x, count);
        return x;
    }

    /** The same on a chain of two that has a past. */
    static void addOpen(Counted x, int count) {
        for (int i = 1; i <= count; i++) {
            x.put(0, i % 4, i);
            x.deliver(0, 1);
        }
    }

    /** All nodes adopt the newest configuration, and all that follows is delivered. */
    static void adoptAll(Counted x) {
        for (int node = 0; node < x.made(); node++) {
            x.adopt(node);
        }
        quiet(x);
    }
}
