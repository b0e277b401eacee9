/** Promise 1. */
public final class NewObjectTest {
    private static final Check CHECK = new Check("new object");

    private static void fresh(int nodes, int want) {
        Counted x = new Counted(nodes);
        String made = "ChainVersions(" + nodes + ") ";
        for (int node = -1; node < 7; node++) {
            boolean there = node >= 0 && node < want;
            CHECK.due(made + "member " + node, x.member(node), there ? node : -1);
            CHECK.due(made + "epoch " + node, x.epoch(node), there ? 1 : -1);
            CHECK.due(made + "length " + node, x.length(node), there ? 0 : -1);
            CHECK.due(made + "settled " + node, x.settled(node), there ? 0 : -1);
            for (int key = 0; key < 4; key++) {
                CHECK.due(made + "version " + node, x.version(node, key, 3), there ? 0 : -1);
                CHECK.due(made + "look " + node, x.look(node, key, 3), 0);
            }
        }
        for (int from = 0; from < 6; from++) {
            for (int to = 0; to < 6; to++) {
                CHECK.due(made + "waiting", x.waiting(from, to), 0);
                CHECK.due(made + "deliver", x.deliver(from, to), ChainVersions.EMPTY);
            }
        }
        for (int c = 0; c < 3; c++) {
            CHECK.due(made + "status", x.status(c), 0);
            CHECK.due(made + "number", x.number(c), -1);
            CHECK.due(made + "value", x.value(c), 0);
            CHECK.due(made + "retry", x.retry(c, 0), ChainVersions.IDLE);
        }
        for (int node = 0; node < want; node++) {
            CHECK.due(made + "adopt", x.adopt(node), false);
            CHECK.due(made + "get", x.get(0, node, 3), ChainVersions.READ);
        }
        CHECK.due(made + "put", x.put(1, 0, 7), ChainVersions.TAKEN);
        CHECK.due(made + "status after put", x.status(1), want == 1 ? 2 : 1);
        CHECK.due(made + "waiting after put", x.waiting(0, 1), want == 1 ? 0 : 1);
        CHECK.due(made + "tick", x.tick(), 1);
        CHECK.due(made + "join", x.join(), want);
    }

    private static void objectsAreApart() {
        Counted x = new Counted(1);
        Counted y = new Counted(1);
        x.put(0, 0, 5);
        x.join();
        CHECK.due("other object: length", y.length(0), 0);
        CHECK.due("other object: status", y.status(0), 0);
        CHECK.due("other object: member", y.member(1), -1);
    }

    public static void main(String[] args) {
        fresh(Integer.MIN_VALUE, 1);
        fresh(-1, 1);
        fresh(0, 1);
        fresh(1, 1);
        fresh(2, 2);
        fresh(3, 3);
        fresh(4, 3);
        fresh(Integer.MAX_VALUE, 3);
        objectsAreApart();
        CHECK.end();
    }
}
