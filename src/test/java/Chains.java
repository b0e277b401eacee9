/** Ways to bring a chain into a state that a test starts from. */
final class Chains {
    private Chains() {
    }

    /** Delivers along the given nodes in turn, each to the next: one message a hop. */
    static void along(ChainVersions x, int... nodes) {
        for (int i = 0; i + 1 < nodes.length; i++) {
            x.deliver(nodes[i], nodes[i + 1]);
        }
    }

    /** Delivers all that can be delivered until nothing moves. */
    static void quiet(ChainVersions x) {
        boolean moved = true;
        while (moved) {
            moved = false;
            for (int from = 0; from < 6; from++) {
                for (int to = 0; to < 6; to++) {
                    moved |= x.deliver(from, to) > ChainVersions.EMPTY;
                }
            }
        }
    }

    /** Lets the master's clock go on by count. */
    static void ticks(ChainVersions x, int count) {
        for (int i = 0; i < count; i++) {
            x.tick();
        }
    }

    /** Stops a node and has the master drop it. */
    static void drop(ChainVersions x, int node) {
        x.stop(node);
        ticks(x, 3);
    }

    /** Writes count values by client 0 and settles each at every node. */
    static void writes(ChainVersions x, int key, int count) {
        for (int i = 1; i <= count; i++) {
            x.put(0, key, i);
            quiet(x);
        }
    }

    /** All nodes adopt the newest configuration, and all that follows is delivered. */
    static void adoptAll(ChainVersions x) {
        for (int node = 0; node < 6; node++) {
            x.adopt(node);
        }
        quiet(x);
    }
}
