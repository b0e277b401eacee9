/** A ChainVersions that counts its calls: nothing is promised after the 512th, so no test may build on a later one. */
final class Counted {
    static final int MOST_CALLS = 512;

    private final ChainVersions store;
    private int calls = 0;
    private int made;

    Counted(int nodes) {
        store = new ChainVersions(nodes);
        made = Math.max(1, Math.min(3, nodes));
    }

    private ChainVersions next() {
        calls++;
        if (calls > MOST_CALLS) {
            throw new IllegalStateException("a test makes more than " + MOST_CALLS + " calls on one object");
        }
        return store;
    }

    int calls() {
        return calls;
    }

    /** How many nodes there are by now, stopped ones too. */
    int made() {
        return made;
    }

    int put(int c, int key, int value) {
        return next().put(c, key, value);
    }

    int get(int c, int node, int key) {
        return next().get(c, node, key);
    }

    int retry(int c, int node) {
        return next().retry(c, node);
    }

    int status(int c) {
        return next().status(c);
    }

    int number(int c) {
        return next().number(c);
    }

    int value(int c) {
        return next().value(c);
    }

    int deliver(int from, int to) {
        return next().deliver(from, to);
    }

    int waiting(int from, int to) {
        return next().waiting(from, to);
    }

    boolean stop(int node) {
        return next().stop(node);
    }

    int join() {
        int node = next().join();
        made += node < 0 ? 0 : 1;
        return node;
    }

    int tick() {
        return next().tick();
    }

    boolean adopt(int node) {
        return next().adopt(node);
    }

    int member(int k) {
        return next().member(k);
    }

    int epoch(int node) {
        return next().epoch(node);
    }

    int length(int node) {
        return next().length(node);
    }

    int settled(int node) {
        return next().settled(node);
    }

    int version(int node, int key, int ahead) {
        return next().version(node, key, ahead);
    }

    int look(int node, int key, int ahead) {
        return next().look(node, key, ahead);
    }
}
