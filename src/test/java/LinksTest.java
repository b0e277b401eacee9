/** LINKS: order, epochs, and what is lost; promises 8, 9, 10 and 13. */
public final class LinksTest {
    private static final Check CHECK = new Check("links");

    /** "there is one from every node to every other", each with an order of its own. */
    private static void linksAreApart() {
        Counted x = new Counted(3);
        x.put(0, 1, 5);
        x.get(1, 0, 1);
        CHECK.due("update from 0 to 1", x.waiting(0, 1), 1);
        CHECK.due("query from 0 to 2", x.waiting(0, 2), 1);
        CHECK.due("sent later, taken off first", x.deliver(0, 2), ChainVersions.QUERY);
        CHECK.due("the other link keeps its own", x.waiting(0, 1), 1);
        CHECK.due("answer from 2 to 0", x.waiting(2, 0), 1);
        CHECK.due("not from 0 to 2", x.waiting(0, 2), 0);
        CHECK.due("not from 2 to 1", x.waiting(2, 1), 0);
        CHECK.due("taken off", x.deliver(0, 1), ChainVersions.UPDATE);
    }

    /** "Every message bears the epoch that its sender had when it was sent": not the one it has now. */
    private static void epochOfSending() {
        Counted x = new Counted(2);
        x.put(0, 0, 1);
        x.join();
        x.adopt(0);
        x.put(1, 0, 2);
        CHECK.due("update, copy, update", x.waiting(0, 1), 3);
        CHECK.due("sent before adoption", x.deliver(0, 1), ChainVersions.UPDATE);
        CHECK.due("sent by adoption", x.deliver(0, 1), ChainVersions.BUSY);
        x.adopt(1);
        CHECK.due("sent by adoption", x.deliver(0, 1), ChainVersions.COPY);
        CHECK.due("sent after adoption", x.deliver(0, 1), ChainVersions.UPDATE);
    }

    /** "What is sent to a node that has stopped .. is lost". */
    private static void sentToAStoppedNode() {
        Counted x = new Counted(3);
        x.put(0, 1, 5);
        CHECK.due("to a living node", x.waiting(0, 1), 1);
        x.stop(1);
        x.put(1, 1, 6);
        CHECK.due("update to a stopped node", x.waiting(0, 1), 0);
        CHECK.due("it does not go past it", x.waiting(0, 2), 0);
        CHECK.due("the head holds it all the same", x.length(0), 2);
        x = new Counted(2);
        x.put(0, 1, 5);
        x.deliver(0, 1);
        x.put(1, 1, 6);
        x.stop(0);
        CHECK.due("the update of a stopped node", x.deliver(0, 1), ChainVersions.UPDATE);
        CHECK.due("ack to a stopped node", x.waiting(1, 0), 0);
    }

    /** "or whose epoch is greater than that of the message, is lost": if it is equal or lower, the message waits. */
    private static void sentToAGreaterEpoch() {
        Counted x = new Counted(2);
        x.join();
        CHECK.due("put, equal epochs", x.put(0, 1, 5), ChainVersions.TAKEN);
        CHECK.due("it waits", x.waiting(0, 1), 1);
        x = new Counted(2);
        x.join();
        x.adopt(1);
        CHECK.due("put, the receiver's is greater", x.put(0, 1, 5), ChainVersions.TAKEN);
        CHECK.due("it is lost", x.waiting(0, 1), 0);
        CHECK.due("the head holds it", x.length(0), 1);
        x.adopt(0);
        CHECK.due("the copy makes up for it", x.deliver(0, 1), ChainVersions.COPY);
        CHECK.due("length", x.length(1), 1);
        x = new Counted(2);
        x.join();
        x.adopt(0);
        CHECK.due("put, the receiver's is lower", x.put(0, 1, 5), ChainVersions.TAKEN);
        CHECK.due("copy and update wait", x.waiting(0, 1), 2);
    }

    /** The other kinds to a node of a greater epoch: an ACK, a QUERY, an ANSWER and a COPY are lost too. */
    private static void allKindsToAGreaterEpoch() {
        Counted x = new Counted(2);
        x.put(0, 1, 5);
        x.join();
        x.adopt(0);
        CHECK.due("update", x.deliver(0, 1), ChainVersions.UPDATE);
        CHECK.due("the ack is lost", x.waiting(1, 0), 0);
        x = new Counted(3);
        x.put(0, 1, 5);
        x.get(1, 0, 1);
        x.join();
        x.adopt(2);
        CHECK.due("a query that waited is lost by adoption", x.waiting(0, 2), 0);
        CHECK.due("get", x.get(2, 0, 1), ChainVersions.ASKED);
        CHECK.due("a query is lost", x.waiting(0, 2), 0);
        CHECK.due("the read waits all the same", x.status(2), 3);
        x = new Counted(3);
        x.put(0, 1, 5);
        x.get(1, 0, 1);
        x.join();
        x.adopt(0);
        CHECK.due("query of the old epoch", x.deliver(0, 2), ChainVersions.QUERY);
        CHECK.due("the answer is lost", x.waiting(2, 0), 0);
        CHECK.due("the read waits", x.status(1), 3);
        x = new Counted(1);
        x.join();
        x.join();
        x.adopt(1);
        x.adopt(0);
        x.join();
        x.adopt(2);
        CHECK.due("copy", x.deliver(0, 1), ChainVersions.COPY);
        CHECK.due("node 1 is ready", x.length(1), 0);
        CHECK.due("its copy to node 2 is lost", x.waiting(1, 2), 0);
        CHECK.due("its ack is not", x.waiting(1, 0), 1);
    }

    /** "What a node sent before it stopped still waits." */
    private static void sentBeforeItStopped() {
        Counted x = Starts.underWay();
        CHECK.due("before: update and query", x.waiting(1, 2), 2);
        x.stop(1);
        CHECK.due("after: update and query", x.waiting(1, 2), 2);
        CHECK.due("update", x.deliver(1, 2), ChainVersions.UPDATE);
        CHECK.due("its write is done", x.number(0), 1);
        CHECK.due("query", x.deliver(1, 2), ChainVersions.QUERY);
        x = Starts.underWay();
        Chains.drop(x, 1);
        CHECK.due("dropped: update and query", x.waiting(1, 2), 2);
        x.adopt(2);
        CHECK.due("lost by adoption", x.waiting(1, 2), 0);
    }

    /** "all messages waiting on links to it are lost", of whatever epoch and sender; no others are. */
    private static void lostByAStop() {
        Counted x = new Counted(3);
        x.put(0, 1, 5);
        Chains.along(x, 0, 1, 2);
        x.put(1, 1, 6);
        x.join();
        x.adopt(0);
        CHECK.due("update of epoch 1 and copy of epoch 2 to node 1", x.waiting(0, 1), 2);
        CHECK.due("ack to node 1", x.waiting(2, 1), 1);
        CHECK.due("get", x.get(2, 1, 1), ChainVersions.ASKED);
        CHECK.due("query from node 1", x.waiting(1, 2), 1);
        CHECK.due("stop", x.stop(1), true);
        CHECK.due("from 0 to 1", x.waiting(0, 1), 0);
        CHECK.due("from 2 to 1", x.waiting(2, 1), 0);
        CHECK.due("from 1 to 2", x.waiting(1, 2), 1);
        CHECK.due("nothing to deliver", x.deliver(0, 1), ChainVersions.EMPTY);
    }

    /** "All messages waiting on links to the node that bear a lower epoch than this are lost": equal ones are not. */
    private static void lostByAdoption() {
        Counted x = new Counted(3);
        x.put(0, 1, 5);
        Chains.along(x, 0, 1, 2);
        x.put(1, 1, 6);
        x.get(2, 1, 1);
        x.join();
        x.adopt(0);
        x.adopt(2);
        CHECK.due("before: update and copy to 1", x.waiting(0, 1), 2);
        CHECK.due("before: two acks to 1", x.waiting(2, 1), 2);
        CHECK.due("the tail has lost the query", x.waiting(1, 2), 0);
        x.adopt(1);
        CHECK.due("after: the copy", x.waiting(0, 1), 1);
        CHECK.due("after: the later ack", x.waiting(2, 1), 1);
        CHECK.due("after: its own copy to 2", x.waiting(1, 2), 1);
        CHECK.due("copy", x.deliver(0, 1), ChainVersions.COPY);
        CHECK.due("it has what was lost", x.length(1), 2);
        CHECK.due("ack", x.deliver(2, 1), ChainVersions.ACK);
        CHECK.due("settled", x.settled(1), 1);
    }

    /** What the adopting node sent itself, and what waits on links between others, is not lost. */
    private static void keptByAdoption() {
        Counted x = new Counted(3);
        x.put(0, 1, 5);
        x.put(1, 1, 6);
        x.deliver(0, 1);
        CHECK.due("from 0 to 1", x.waiting(0, 1), 1);
        CHECK.due("from 1 to 2", x.waiting(1, 2), 1);
        x.join();
        CHECK.due("adopt", x.adopt(0), true);
        CHECK.due("update and copy from 0 to 1", x.waiting(0, 1), 2);
        CHECK.due("from 1 to 2", x.waiting(1, 2), 1);
        CHECK.due("update", x.deliver(0, 1), ChainVersions.UPDATE);
    }

    /** The same for a node that is not ready: it loses what bears a lower epoch, and sends nothing. */
    private static void adoptionBeforeReady() {
        Counted x = new Counted(1);
        x.join();
        x.adopt(0);
        CHECK.due("copy of epoch 2", x.waiting(0, 1), 1);
        x.join();
        CHECK.due("adopt", x.adopt(1), true);
        CHECK.due("it is lost", x.waiting(0, 1), 0);
        CHECK.due("no ack", x.waiting(1, 0), 0);
        CHECK.due("no copy", x.waiting(1, 2), 0);
        CHECK.due("not ready", x.length(1), -1);
        CHECK.due("epoch", x.epoch(1), 3);
        x.adopt(0);
        CHECK.due("copy of epoch 3", x.waiting(0, 1), 1);
        CHECK.due("copy", x.deliver(0, 1), ChainVersions.COPY);
        CHECK.due("ready", x.length(1), 0);
    }

    public static void main(String[] args) {
        linksAreApart();
        epochOfSending();
        sentToAStoppedNode();
        sentToAGreaterEpoch();
        allKindsToAGreaterEpoch();
        sentBeforeItStopped();
        lostByAStop();
        lostByAdoption();
        keptByAdoption();
        adoptionBeforeReady();
        CHECK.end();
    }
}
