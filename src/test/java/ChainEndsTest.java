/** HEAD and TAIL, TO TAKE, TO SETTLE ALL, and copies at the ends of the chain; promises 2, 8, 11 and 13. */
public final class ChainEndsTest {
    private static final Check CHECK = new Check("chain ends");

    private static void nothingWaits(String when, Counted x) {
        for (int from = 0; from < 6; from++) {
            for (int to = 0; to < 6; to++) {
                CHECK.due(when + ": waiting(" + from + ", " + to + ")", x.waiting(from, to), 0);
            }
        }
    }

    /** "(it may be both)": a node that is head and tail at once settles what it takes, and sends nothing. */
    private static void headAndTailAtOnce() {
        Counted x = new Counted(1);
        CHECK.due("put", x.put(0, 1, 5), ChainVersions.TAKEN);
        CHECK.due("settled", x.settled(0), 1);
        CHECK.due("done", x.number(0), 1);
        CHECK.due("retry", x.retry(0, 0), ChainVersions.SETTLED);
        CHECK.due("get", x.get(1, 0, 1), ChainVersions.READ);
        CHECK.due("value", x.value(1), 5);
        nothingWaits("one node", x);
        x = new Counted(2);
        CHECK.due("put, two nodes", x.put(0, 1, 5), ChainVersions.TAKEN);
        CHECK.due("settled", x.settled(0), 0);
        CHECK.due("done", x.number(0), -1);
        CHECK.due("retry", x.retry(0, 0), ChainVersions.KNOWN);
        CHECK.due("get", x.get(1, 0, 1), ChainVersions.ASKED);
        CHECK.due("update and query", x.waiting(0, 1), 2);
    }

    /** A head becomes the tail too by adoption: it settles all, ends writes, serves reads, and sends nothing. */
    private static void headBecomesTail() {
        Counted x = new Counted(2);
        x.put(0, 1, 5);
        x.put(1, 1, 6);
        x.get(2, 0, 1);
        x.stop(1);
        Chains.ticks(x, 2);
        CHECK.due("adopt with two ticks", x.adopt(0), false);
        CHECK.due("settled", x.settled(0), 0);
        x.tick();
        CHECK.due("settled before adoption", x.settled(0), 0);
        CHECK.due("adopt", x.adopt(0), true);
        CHECK.due("settled", x.settled(0), 2);
        CHECK.due("write 0", x.number(0), 1);
        CHECK.due("write 1", x.number(1), 2);
        CHECK.due("read", x.number(2), 2);
        CHECK.due("read", x.value(2), 6);
        nothingWaits("alone", x);
        CHECK.due("put", x.put(0, 3, 7), ChainVersions.TAKEN);
        CHECK.due("done at once", x.number(0), 3);
        nothingWaits("alone", x);
    }

    /** A tail becomes the head too: what it holds is settled, and it has no predecessor to tell. */
    private static void tailBecomesHead() {
        Counted x = new Counted(2);
        x.put(0, 1, 5);
        x.deliver(0, 1);
        Chains.drop(x, 0);
        CHECK.due("adopt", x.adopt(1), true);
        nothingWaits("alone", x);
        CHECK.due("put", x.put(1, 1, 6), ChainVersions.TAKEN);
        CHECK.due("number", x.number(1), 2);
        nothingWaits("alone", x);
    }

    /** It is the tail no more when it adopts the next configuration, but is until then. */
    private static void tailNoMore() {
        Counted x = new Counted(1);
        x.join();
        CHECK.due("put before adoption", x.put(0, 1, 5), ChainVersions.TAKEN);
        CHECK.due("done at once", x.number(0), 1);
        CHECK.due("nothing is sent", x.waiting(0, 1), 0);
        x.adopt(0);
        CHECK.due("put after adoption", x.put(0, 1, 6), ChainVersions.TAKEN);
        CHECK.due("under way", x.status(0), 1);
        CHECK.due("copy and update", x.waiting(0, 1), 2);
        CHECK.due("what was settled stays so", x.settled(0), 1);
        CHECK.due("copy", x.deliver(0, 1), ChainVersions.COPY);
        CHECK.due("the first update alone", x.length(1), 1);
        CHECK.due("update", x.deliver(0, 1), ChainVersions.UPDATE);
        CHECK.due("done", x.number(0), 2);
    }

    /** TO TAKE at each place: the head and the middle send UPDATE to the successor, the tail sends ACK. */
    private static void takeAtEachPlace() {
        Counted x = new Counted(3);
        x.put(0, 1, 5);
        CHECK.due("head to successor", x.waiting(0, 1), 1);
        CHECK.due("head to tail", x.waiting(0, 2), 0);
        x.deliver(0, 1);
        CHECK.due("middle: length", x.length(1), 1);
        CHECK.due("middle: open", x.settled(1), 0);
        CHECK.due("middle to successor", x.waiting(1, 2), 1);
        CHECK.due("middle to predecessor", x.waiting(1, 0), 0);
        CHECK.due("under way", x.status(0), 1);
        x.deliver(1, 2);
        CHECK.due("tail: length", x.length(2), 1);
        CHECK.due("tail: settled", x.settled(2), 1);
        CHECK.due("tail to predecessor", x.waiting(2, 1), 1);
        CHECK.due("tail to head", x.waiting(2, 0), 0);
        CHECK.due("done", x.status(0), 2);
        CHECK.due("the others have it open", x.settled(1) + x.settled(0), 0);
    }

    /** Neighbours are those of the node's view: a dropped node is passed by only after adoption. */
    private static void neighboursOfTheView() {
        Counted x = new Counted(3);
        Chains.drop(x, 1);
        x.put(0, 1, 5);
        CHECK.due("to the old successor, in vain", x.waiting(0, 2), 0);
        x.adopt(0);
        CHECK.due("copy to the new one", x.waiting(0, 2), 1);
        x.put(1, 1, 6);
        CHECK.due("copy and update", x.waiting(0, 2), 2);
        x.adopt(2);
        CHECK.due("ack to the new predecessor", x.waiting(2, 0), 1);
        Chains.quiet(x);
        CHECK.due("settled", x.settled(0), 2);
    }

    /** A node that is not ready, in the middle: it holds the copy with its settled number, sends COPY, then ACK. */
    private static void readyInTheMiddle() {
        Counted x = new Counted(2);
        Chains.writes(x, 0, 2);
        x.put(1, 0, 30);
        x.join();
        x.join();
        Chains.drop(x, 1);
        x.adopt(2);
        x.adopt(0);
        CHECK.due("the head has one open", x.settled(0), 2);
        CHECK.due("copy", x.deliver(0, 2), ChainVersions.COPY);
        CHECK.due("length", x.length(2), 3);
        CHECK.due("the same settled number", x.settled(2), 2);
        CHECK.due("open", x.version(2, 0, 1), 3);
        CHECK.due("clean", x.version(2, 0, 0), 2);
        CHECK.due("write under way", x.status(1), 1);
        CHECK.due("a copy goes on", x.waiting(2, 3), 1);
        CHECK.due("an ack", x.waiting(2, 0), 1);
        CHECK.due("of what is settled", x.deliver(2, 0), ChainVersions.ACK);
        CHECK.due("nothing new to the head", x.settled(0), 2);
        x.adopt(3);
        CHECK.due("copy to the last", x.deliver(2, 3), ChainVersions.COPY);
        CHECK.due("the tail settles all", x.settled(3), 3);
        CHECK.due("write done", x.number(1), 3);
        CHECK.due("value", x.value(1), 30);
        CHECK.due("ack", x.deliver(3, 2), ChainVersions.ACK);
        CHECK.due("settled", x.settled(2), 3);
    }

    /** The same at the tail at once. */
    private static void readyAtTheTail() {
        Counted x = new Counted(2);
        x.put(1, 0, 30);
        x.join();
        Chains.drop(x, 1);
        x.adopt(2);
        x.adopt(0);
        CHECK.due("copy", x.deliver(0, 2), ChainVersions.COPY);
        CHECK.due("settled", x.settled(2), 1);
        CHECK.due("write done", x.number(1), 1);
        CHECK.due("one ack", x.waiting(2, 0), 1);
        CHECK.due("ack", x.deliver(2, 0), ChainVersions.ACK);
        CHECK.due("settled", x.settled(0), 1);
    }

    /** TO SETTLE ALL ends a write only if it is the latest request, under way, and of the update's number. */
    private static void whichWritesAreDone() {
        Counted x = Chains.withOpen(7);
        CHECK.due("the eighth", x.put(0, 1, 80), ChainVersions.TAKEN);
        x.put(1, 1, 90);
        CHECK.due("the other client's is refused", x.status(1), 1);
        Chains.drop(x, 1);
        CHECK.due("adopt", x.adopt(0), true);
        CHECK.due("all settled", x.settled(0), 8);
        CHECK.due("the latest of client 0", x.number(0), 8);
        CHECK.due("its value", x.value(0), 80);
        CHECK.due("what was never held is not done", x.status(1), 1);
        CHECK.due("no request", x.status(2), 0);
    }

    public static void main(String[] args) {
        headAndTailAtOnce();
        headBecomesTail();
        tailBecomesHead();
        tailNoMore();
        takeAtEachPlace();
        neighboursOfTheView();
        readyInTheMiddle();
        readyAtTheTail();
        whichWritesAreDone();
        CHECK.end();
    }
}
