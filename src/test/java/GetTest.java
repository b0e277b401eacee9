/** Promise 3, and TO SERVE. */
public final class GetTest {
    private static final Check CHECK = new Check("get");
    private static final int[] NO_CLIENTS = {-1, 3, Integer.MIN_VALUE, Integer.MAX_VALUE};
    private static final int[] NO_KEYS = {-1, 4, Integer.MIN_VALUE, Integer.MAX_VALUE};
    private static final int[] NO_NODES = {-1, 6, Integer.MIN_VALUE, Integer.MAX_VALUE};

    /** "BAD if there is no such client". */
    private static void noSuchClient() {
        for (int c : NO_CLIENTS) {
            Unchanged.everywhere(CHECK, "get by client " + c, x -> x.get(c, 0, 0), ChainVersions.BAD);
        }
        CHECK.due("get by client 0", new Counted(3).get(0, 0, 0), ChainVersions.READ);
        CHECK.due("get by client 2", new Counted(3).get(2, 0, 0), ChainVersions.READ);
    }

    /** "BAD if there is no such .. key, or node is not 0 .. 5; then BUSY": for clients with and without a request. */
    private static void noSuchKeyOrNode() {
        for (int c = 0; c < 3; c++) {
            int client = c;
            for (int key : NO_KEYS) {
                Unchanged.everywhere(CHECK, "get of key " + key, x -> x.get(client, 1, key), ChainVersions.BAD);
            }
            for (int node : NO_NODES) {
                Unchanged.everywhere(CHECK, "get at node " + node, x -> x.get(client, node, 0), ChainVersions.BAD);
            }
        }
        CHECK.due("get of key 0", new Counted(3).get(0, 1, 0), ChainVersions.READ);
        CHECK.due("get of key 3", new Counted(3).get(0, 1, 3), ChainVersions.READ);
        CHECK.due("get at node 0", new Counted(3).get(0, 0, 0), ChainVersions.READ);
        CHECK.due("get at node 5 that is not made", new Counted(3).get(0, 5, 0), ChainVersions.LOST);
        CHECK.due("get at node 5", Starts.six().get(1, 5, 0), ChainVersions.READ);
    }

    /** "then BUSY if a request of the client is under way; then LOST": also where the read would be lost. */
    private static void busy() {
        Unchanged.due(CHECK, "get, a write under way", Starts::underWay, x -> x.get(0, 2, 3), ChainVersions.BUSY);
        Unchanged.due(CHECK, "get, a read under way", Starts::underWay, x -> x.get(2, 2, 3), ChainVersions.BUSY);
        Unchanged.due(CHECK, "the same read again", Starts::underWay, x -> x.get(2, 1, 1), ChainVersions.BUSY);
        Unchanged.due(CHECK, "get, a full write under way", Starts::full, x -> x.get(1, 0, 3), ChainVersions.BUSY);
        Unchanged.due(CHECK, "busy, node not made", Starts::underWay, x -> x.get(0, 3, 3), ChainVersions.BUSY);
        Unchanged.due(CHECK, "busy, node has stopped", Starts::changing, x -> x.get(2, 0, 3), ChainVersions.BUSY);
        Unchanged.due(CHECK, "busy, node is not ready", Starts::changing, x -> x.get(1, 3, 3), ChainVersions.BUSY);
    }

    /** The nearest other side of BUSY: the request was done by the call before. */
    private static void notBusyWhenDone() {
        Counted x = Starts.underWay();
        CHECK.due("under way", x.get(0, 2, 1), ChainVersions.BUSY);
        CHECK.due("to the tail", x.deliver(1, 2), ChainVersions.UPDATE);
        CHECK.due("done", x.get(0, 2, 1), ChainVersions.READ);
        CHECK.due("query", x.deliver(1, 2), ChainVersions.QUERY);
        CHECK.due("ack", x.deliver(2, 1), ChainVersions.ACK);
        CHECK.due("read under way", x.get(2, 2, 1), ChainVersions.BUSY);
        CHECK.due("answer", x.deliver(2, 1), ChainVersions.ANSWER);
        CHECK.due("read done", x.get(2, 2, 1), ChainVersions.READ);
    }

    /** "then LOST, changing nothing, if there is no living and ready node of that number". */
    private static void lost() {
        Unchanged.due(CHECK, "node not made, no request", Starts::fresh, x -> x.get(0, 3, 0), ChainVersions.LOST);
        Unchanged.due(CHECK, "node not made, a write done", Starts::allDone, x -> x.get(0, 2, 0), ChainVersions.LOST);
        Unchanged.due(CHECK, "node not made, a read done", Starts::allDone, x -> x.get(2, 5, 0), ChainVersions.LOST);
        CHECK.due("the last node made", Starts.allDone().get(0, 1, 0), ChainVersions.READ);
        Starts.Start stopped = () -> {
            Counted x = Starts.allDone();
            x.stop(1);
            return x;
        };
        Unchanged.due(CHECK, "node has stopped", stopped, x -> x.get(0, 1, 1), ChainVersions.LOST);
        CHECK.due("the other one has not", stopped.make().get(0, 0, 1), ChainVersions.READ);
        Starts.Start notReady = () -> {
            Counted x = Starts.allDone();
            x.join();
            x.adopt(1);
            return x;
        };
        Unchanged.due(CHECK, "node is not ready", notReady, x -> x.get(0, 2, 1), ChainVersions.LOST);
        Counted x = notReady.make();
        CHECK.due("its copy", x.deliver(1, 2), ChainVersions.COPY);
        CHECK.due("node is ready", x.get(0, 2, 1), ChainVersions.READ);
        CHECK.due("number", x.number(0), 1);
        CHECK.due("value", x.value(0), 50);
    }

    /** "if the key is clean there, the read is done, with the number and value of the clean version". */
    private static void cleanKeyIsRead() {
        Counted x = new Counted(3);
        x.put(0, 1, 5);
        CHECK.due("open updates are of another key", x.get(1, 0, 2), ChainVersions.READ);
        CHECK.due("no settled update: number", x.number(1), 0);
        CHECK.due("no settled update: value", x.value(1), 0);
        CHECK.due("status", x.status(1), 4);
        CHECK.due("nothing was asked", x.waiting(0, 2), 0);
        CHECK.due("node behind", x.get(1, 2, 1), ChainVersions.READ);
        CHECK.due("it knows nothing yet", x.number(1), 0);
        Chains.quiet(x);
        CHECK.due("settled", x.get(1, 1, 1), ChainVersions.READ);
        CHECK.due("number", x.number(1), 1);
        CHECK.due("value", x.value(1), 5);
        x.put(0, 1, 6);
        Chains.quiet(x);
        x.put(0, 3, 7);
        CHECK.due("two settled", x.get(1, 0, 1), ChainVersions.READ);
        CHECK.due("the greatest number", x.number(1), 2);
        CHECK.due("its value", x.value(1), 6);
    }

    /** The key is clean at a node from the ACK of its last open update on. */
    private static void cleanByTheLastAck() {
        Counted x = Chains.withOpen(5);
        CHECK.due("keys 1, 2, 3, 0, 1 are open", x.settled(0), 0);
        CHECK.due("ack 1", x.deliver(1, 0), ChainVersions.ACK);
        CHECK.due("key 1 has update 5 open", x.get(1, 0, 1), ChainVersions.ASKED);
        CHECK.due("key 2 has update 2 open", x.get(2, 0, 2), ChainVersions.ASKED);
        x = Chains.withOpen(5);
        x.deliver(1, 0);
        x.deliver(1, 0);
        CHECK.due("key 2 is settled", x.get(1, 0, 2), ChainVersions.READ);
        CHECK.due("number", x.number(1), 2);
        CHECK.due("key 3 is not", x.get(1, 0, 3), ChainVersions.ASKED);
    }

    /** "Otherwise the node sends QUERY .. to the tail of its view, and the read WAITS at the node". */
    private static void openKeyAsksTheTail() {
        Counted x = new Counted(3);
        x.put(0, 1, 5);
        CHECK.due("get", x.get(1, 0, 1), ChainVersions.ASKED);
        CHECK.due("status", x.status(1), 3);
        CHECK.due("number", x.number(1), -1);
        CHECK.due("value", x.value(1), 0);
        CHECK.due("to the tail, not the successor", x.waiting(0, 2), 1);
        CHECK.due("the successor has the update alone", x.waiting(0, 1), 1);
        CHECK.due("query", x.deliver(0, 2), ChainVersions.QUERY);
        CHECK.due("answer", x.deliver(2, 0), ChainVersions.ANSWER);
        CHECK.due("the clean version of the tail", x.number(1), 0);
        CHECK.due("value", x.value(1), 0);
    }

    /** The tail of its view, which is not that of the newest configuration before the node adopts it. */
    private static void tailOfItsOwnView() {
        Counted x = new Counted(3);
        x.put(0, 1, 5);
        x.join();
        CHECK.due("get in the old view", x.get(1, 0, 1), ChainVersions.ASKED);
        CHECK.due("to the old tail", x.waiting(0, 2), 1);
        CHECK.due("not to the new one", x.waiting(0, 3), 0);
        x.adopt(0);
        CHECK.due("get in the new view", x.get(2, 0, 1), ChainVersions.ASKED);
        CHECK.due("both reads to the new tail", x.waiting(0, 3), 2);
        CHECK.due("the old one's query alone", x.waiting(0, 2), 1);
    }

    /** At the tail every key is clean, whatever is open before it. */
    private static void tailReadsAtOnce() {
        Counted x = Chains.withOpen(8);
        for (int key = 0; key < 4; key++) {
            CHECK.due("get at the tail", x.get(1, 1, key), ChainVersions.READ);
            CHECK.due("number", x.number(1), key == 0 ? 8 : key + 4);
        }
    }

    /** A read that waits is not ended by the ACK that makes its key clean, but by the answer. */
    private static void waitsThoughClean() {
        Counted x = new Counted(3);
        x.put(0, 1, 5);
        CHECK.due("get", x.get(1, 0, 1), ChainVersions.ASKED);
        Chains.along(x, 0, 1, 2, 1, 0);
        CHECK.due("settled", x.settled(0), 1);
        CHECK.due("another read is done at once", x.get(2, 0, 1), ChainVersions.READ);
        CHECK.due("that one waits", x.status(1), 3);
        CHECK.due("number", x.number(1), -1);
        CHECK.due("query", x.deliver(0, 2), ChainVersions.QUERY);
        CHECK.due("it waits", x.status(1), 3);
        CHECK.due("answer", x.deliver(2, 0), ChainVersions.ANSWER);
        CHECK.due("done", x.status(1), 4);
        CHECK.due("number", x.number(1), 1);
    }

    /** A stop of the node where a read waits does not end the read. */
    private static void waitsAtAStoppedNode() {
        Counted x = Starts.underWay();
        x.stop(1);
        CHECK.due("status", x.status(2), 3);
        CHECK.due("number", x.number(2), -1);
        CHECK.due("get", x.get(2, 2, 1), ChainVersions.BUSY);
    }

    private static void tailThatIsNotReadyIsAskedToo() {
        Counted x = new Counted(1);
        x.join();
        x.adopt(0);
        x.put(0, 0, 3);
        CHECK.due("get", x.get(1, 0, 0), ChainVersions.ASKED);
        CHECK.due("copy, update, query", x.waiting(0, 1), 3);
    }

    private static void stoppedTailIsAskedInVain() {
        Counted x = new Counted(2);
        x.put(0, 0, 3);
        x.stop(1);
        CHECK.due("get", x.get(1, 0, 0), ChainVersions.ASKED);
        CHECK.due("lost query", x.waiting(0, 1), 0);
        CHECK.due("it waits", x.status(1), 3);
        Chains.ticks(x, 3);
        CHECK.due("adopt", x.adopt(0), true);
        CHECK.due("served again", x.status(1), 4);
        CHECK.due("number", x.number(1), 1);
        CHECK.due("value", x.value(1), 3);
    }

    public static void main(String[] args) {
        noSuchClient();
        noSuchKeyOrNode();
        busy();
        notBusyWhenDone();
        lost();
        cleanKeyIsRead();
        cleanByTheLastAck();
        openKeyAsksTheTail();
        tailOfItsOwnView();
        tailReadsAtOnce();
        waitsThoughClean();
        waitsAtAStoppedNode();
        tailThatIsNotReadyIsAskedToo();
        stoppedTailIsAskedInVain();
        CHECK.end();
    }
}
