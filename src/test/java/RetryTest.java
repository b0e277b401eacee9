/** Promise 4. What becomes of a write that is sent again is in SendTest too. */
public final class RetryTest {
    private static final Check CHECK = new Check("retry");
    private static final int[] NO_CLIENTS = {-1, 3, Integer.MIN_VALUE, Integer.MAX_VALUE};
    private static final int[] NO_NODES = {-1, 6, Integer.MIN_VALUE, Integer.MAX_VALUE};

    /** "BAD if there is no such client". */
    private static void noSuchClient() {
        for (int c : NO_CLIENTS) {
            Unchanged.everywhere(CHECK, "retry by client " + c, x -> x.retry(c, 0), ChainVersions.BAD);
        }
        CHECK.due("retry by client 0", new Counted(2).retry(0, 0), ChainVersions.IDLE);
        CHECK.due("retry by client 2", new Counted(2).retry(2, 0), ChainVersions.IDLE);
    }

    /** "then IDLE if it made no request, or the latest is a read that is done", whatever the node. */
    private static void idle() {
        int[] nodes = {0, 1, 5, -1, 6, Integer.MIN_VALUE, Integer.MAX_VALUE};
        for (int node : nodes) {
            Unchanged.due(CHECK, "no request, node " + node, Starts::fresh, x -> x.retry(0, node), ChainVersions.IDLE);
            Unchanged.due(CHECK, "read done, node " + node, Starts::allDone, x -> x.retry(2, node), ChainVersions.IDLE);
        }
        Counted x = Starts.allDone();
        CHECK.due("write done", x.retry(0, 0), ChainVersions.SETTLED);
        x.get(0, 0, 1);
        CHECK.due("a read after it", x.retry(0, 0), ChainVersions.IDLE);
        x.put(0, 1, 5);
        CHECK.due("a write after that", x.retry(0, 0), ChainVersions.KNOWN);
    }

    /** A call that was refused made no request. */
    private static void refusedIsNoRequest() {
        Counted x = new Counted(2);
        x.put(0, 4, 5);
        CHECK.due("after a BAD put", x.retry(0, 0), ChainVersions.IDLE);
        x.get(0, 0, 4);
        CHECK.due("after a BAD get", x.retry(0, 0), ChainVersions.IDLE);
        x.get(0, 2, 0);
        CHECK.due("after a LOST get", x.retry(0, 0), ChainVersions.IDLE);
        x.stop(0);
        x.put(0, 0, 5);
        CHECK.due("after a LOST put, which is one", x.retry(0, 0), ChainVersions.LOST);
    }

    /** "A write, under way or done: it is sent", and "(For a write, node is not looked at.)". */
    private static void write() {
        int[] nodes = {0, 1, 2, 5, -1, 6, Integer.MIN_VALUE, Integer.MAX_VALUE};
        for (int node : nodes) {
            Unchanged.due(CHECK, "under way, node " + node, Starts::underWay, x -> x.retry(0, node),
                ChainVersions.KNOWN);
            Unchanged.due(CHECK, "done, node " + node, Starts::allDone, x -> x.retry(0, node), ChainVersions.SETTLED);
            Unchanged.due(CHECK, "full, node " + node, Starts::full, x -> x.retry(1, node), ChainVersions.FULL);
            Unchanged.due(CHECK, "lost, node " + node, Starts::changing, x -> x.retry(1, node), ChainVersions.LOST);
        }
        Counted x = Starts.allDone();
        x.stop(0);
        CHECK.due("done write to a stopped head", x.retry(0, 1), ChainVersions.LOST);
        CHECK.due("it stays done", x.status(0), 2);
        CHECK.due("with its number", x.number(0), 1);
    }

    private static void requestNumbersTellWritesApart() {
        Counted x = new Counted(1);
        x.put(0, 1, 5);
        x.put(0, 1, 5);
        CHECK.due("the same write again is a new one", x.length(0), 2);
        x.get(0, 0, 1);
        x.put(0, 1, 5);
        CHECK.due("a read does not use up the write before it", x.length(0), 3);
        CHECK.due("retry", x.retry(0, 0), ChainVersions.SETTLED);
        CHECK.due("length", x.length(0), 3);
        CHECK.due("number", x.number(0), 3);
    }

    /** Client 0 wrote 5 at a head that stopped before it reached another node; client 1 wrote 6 settled. */
    private static void writeThatDiedIsTakenAnew() {
        Counted x = new Counted(3);
        x.put(1, 2, 6);
        Chains.quiet(x);
        x.put(0, 1, 5);
        Chains.drop(x, 0);
        CHECK.due("update on the way from the stopped head", x.waiting(0, 1), 1);
        x.adopt(1);
        CHECK.due("is lost by adoption", x.waiting(0, 1), 0);
        CHECK.due("retry", x.retry(0, 0), ChainVersions.TAKEN);
        CHECK.due("its number", x.version(1, 1, 1), 2);
        CHECK.due("retry", x.retry(0, 0), ChainVersions.KNOWN);
        CHECK.due("settled by the head before", x.retry(1, 0), ChainVersions.SETTLED);
        x.adopt(2);
        Chains.quiet(x);
        CHECK.due("done", x.number(0), 2);
        CHECK.due("done", x.value(0), 5);
    }

    /** "A read under way: BUSY if the node where it waits has not stopped", before a wrong node is BAD or LOST. */
    private static void readAtALivingNode() {
        int[] nodes = {0, 1, 2, 3, 5, -1, 6, Integer.MIN_VALUE, Integer.MAX_VALUE};
        for (int node : nodes) {
            Unchanged.due(CHECK, "read waits at a living node, retry at " + node, Starts::underWay,
                x -> x.retry(2, node), ChainVersions.BUSY);
            Unchanged.due(CHECK, "other nodes have stopped, retry at " + node, Starts::changing,
                x -> x.retry(2, node), ChainVersions.BUSY);
        }
    }

    /** As underWay, and the node where the read of client 2 waits has stopped; node 3 has joined and is not ready. */
    private static Counted readAtAStoppedNode() {
        Counted x = Starts.underWay();
        x.join();
        x.stop(1);
        return x;
    }

    /** "then BAD if node is not 0 .. 5". */
    private static void readAtNoNode() {
        for (int node : NO_NODES) {
            Unchanged.due(CHECK, "retry of the read at " + node, RetryTest::readAtAStoppedNode,
                x -> x.retry(2, node), ChainVersions.BAD);
        }
        for (int node : NO_NODES) {
            Unchanged.due(CHECK, "retry of the read at " + node, Starts::leftAlone, x -> x.retry(2, node),
                ChainVersions.BAD);
        }
        Unchanged.due(CHECK, "retry of the read where it waited", Starts::leftAlone, x -> x.retry(2, 0),
            ChainVersions.LOST);
        Unchanged.due(CHECK, "retry of the read at one not made", Starts::leftAlone, x -> x.retry(2, 2),
            ChainVersions.LOST);
        CHECK.due("at node 0", readAtAStoppedNode().retry(2, 0), ChainVersions.ASKED);
        CHECK.due("at node 5", readAtAStoppedNode().retry(2, 5), ChainVersions.LOST);
    }

    /** "then LOST, changing nothing, if there is no living and ready node of that number". */
    private static void readIsLost() {
        int[] nodes = {1, 3, 4, 5};
        String[] why = {"which has stopped", "which is not ready", "which is not made", "which is not made"};
        for (int i = 0; i < nodes.length; i++) {
            int node = nodes[i];
            Unchanged.due(CHECK, "retry at " + node + ", " + why[i], RetryTest::readAtAStoppedNode,
                x -> x.retry(2, node), ChainVersions.LOST);
        }
        Counted x = readAtAStoppedNode();
        x.adopt(2);
        CHECK.due("not ready before its copy", x.retry(2, 3), ChainVersions.LOST);
        CHECK.due("copy", x.deliver(2, 3), ChainVersions.COPY);
        CHECK.due("ready", x.retry(2, 3), ChainVersions.READ);
    }

    /** "otherwise it waits at the old node no more and is served at that one: READ or ASKED". */
    private static void readIsServedElsewhere() {
        Counted x = readAtAStoppedNode();
        CHECK.due("where the key is clean", x.retry(2, 2), ChainVersions.READ);
        CHECK.due("status", x.status(2), 4);
        CHECK.due("number", x.number(2), 0);
        CHECK.due("value", x.value(2), 0);
        CHECK.due("done: idle", x.retry(2, 2), ChainVersions.IDLE);
        x = readAtAStoppedNode();
        CHECK.due("where it is not", x.retry(2, 0), ChainVersions.ASKED);
        CHECK.due("status", x.status(2), 3);
        CHECK.due("it waits at a living node now", x.retry(2, 2), ChainVersions.BUSY);
        CHECK.due("query to the tail", x.deliver(0, 2), ChainVersions.QUERY);
        CHECK.due("answer", x.deliver(2, 0), ChainVersions.ANSWER);
        CHECK.due("done", x.number(2), 0);
        CHECK.due("idle", x.retry(2, 0), ChainVersions.IDLE);
    }

    /** The read keeps its key, and it may move more than once. */
    private static void readMovesTwice() {
        Counted x = new Counted(3);
        x.put(0, 3, 5);
        x.deliver(0, 1);
        CHECK.due("get", x.get(1, 1, 3), ChainVersions.ASKED);
        x.stop(1);
        CHECK.due("to node 0", x.retry(1, 0), ChainVersions.ASKED);
        x.stop(0);
        CHECK.due("to the stopped node", x.retry(1, 0), ChainVersions.LOST);
        CHECK.due("update of the stopped node", x.deliver(1, 2), ChainVersions.UPDATE);
        CHECK.due("to node 2", x.retry(1, 2), ChainVersions.READ);
        CHECK.due("number", x.number(1), 1);
        CHECK.due("value", x.value(1), 5);
    }

    /** The stopped node's query still waits; what becomes of it must not touch the read that moved on. */
    private static void oldQueryIsNoMatter() {
        Counted x = readAtAStoppedNode();
        CHECK.due("served where it is clean", x.retry(2, 2), ChainVersions.READ);
        CHECK.due("number", x.number(2), 0);
        CHECK.due("update of the stopped node", x.deliver(1, 2), ChainVersions.UPDATE);
        CHECK.due("its query", x.deliver(1, 2), ChainVersions.QUERY);
        CHECK.due("the answer is lost", x.waiting(2, 1), 0);
        CHECK.due("number", x.number(2), 0);
        CHECK.due("status", x.status(2), 4);
    }

    public static void main(String[] args) {
        noSuchClient();
        idle();
        refusedIsNoRequest();
        write();
        requestNumbersTellWritesApart();
        writeThatDiedIsTakenAnew();
        readAtALivingNode();
        readAtNoNode();
        readIsLost();
        readIsServedElsewhere();
        readMovesTwice();
        oldQueryIsNoMatter();
        CHECK.end();
    }
}
