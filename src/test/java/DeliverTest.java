/** Promises 8 and 9: deliver and waiting, and what nodes do with messages. */
public final class DeliverTest {
    private static final Check CHECK = new Check("deliver");

    private static void wrongInputs() {
        ChainVersions x = new ChainVersions(3);
        int[] wrong = {-1, 6, Integer.MIN_VALUE, Integer.MAX_VALUE};
        for (int n : wrong) {
            CHECK.due("deliver from " + n, x.deliver(n, 0), ChainVersions.BAD);
            CHECK.due("deliver to " + n, x.deliver(0, n), ChainVersions.BAD);
            CHECK.due("waiting from " + n, x.waiting(n, 0), -1);
            CHECK.due("waiting to " + n, x.waiting(0, n), -1);
        }
        CHECK.due("to itself", x.deliver(0, 0), ChainVersions.EMPTY);
        CHECK.due("to itself", x.waiting(0, 0), 0);
        CHECK.due("to one not made", x.deliver(0, 5), ChainVersions.EMPTY);
        CHECK.due("to one not made", x.waiting(0, 5), 0);
        CHECK.due("from one not made", x.deliver(5, 0), ChainVersions.EMPTY);
    }

    private static void orderOfSending() {
        ChainVersions x = new ChainVersions(2);
        x.put(0, 0, 1);
        x.put(1, 0, 2);
        x.get(2, 0, 0);
        CHECK.due("waiting", x.waiting(0, 1), 3);
        CHECK.due("other direction", x.waiting(1, 0), 0);
        CHECK.due("first", x.deliver(0, 1), ChainVersions.UPDATE);
        CHECK.due("value", x.look(1, 0, 0), 1);
        CHECK.due("waiting", x.waiting(0, 1), 2);
        CHECK.due("second", x.deliver(0, 1), ChainVersions.UPDATE);
        CHECK.due("value", x.look(1, 0, 0), 2);
        CHECK.due("third", x.deliver(0, 1), ChainVersions.QUERY);
        CHECK.due("no more", x.deliver(0, 1), ChainVersions.EMPTY);
        CHECK.due("back", x.waiting(1, 0), 3);
        CHECK.due("back", x.deliver(1, 0), ChainVersions.ACK);
        CHECK.due("settled", x.settled(0), 1);
        CHECK.due("back", x.deliver(1, 0), ChainVersions.ACK);
        CHECK.due("settled", x.settled(0), 2);
        CHECK.due("back", x.deliver(1, 0), ChainVersions.ANSWER);
        CHECK.due("read", x.number(2), 2);
    }

    private static void ackGoesUpOnceEach() {
        ChainVersions x = new ChainVersions(3);
        x.put(0, 0, 1);
        Chains.along(x, 0, 1, 2);
        CHECK.due("ack", x.waiting(2, 1), 1);
        CHECK.due("ack", x.deliver(2, 1), ChainVersions.ACK);
        CHECK.due("settled 1", x.settled(1), 1);
        CHECK.due("settled 0", x.settled(0), 0);
        CHECK.due("ack goes on", x.waiting(1, 0), 1);
        x.join();
        x.adopt(2);
        CHECK.due("an ack of a higher epoch waits", x.deliver(2, 1), ChainVersions.BUSY);
        CHECK.due("it is still there", x.waiting(2, 1), 1);
        x.adopt(1);
        CHECK.due("ack by adoption", x.waiting(1, 0), 2);
        CHECK.due("old news", x.deliver(2, 1), ChainVersions.ACK);
        CHECK.due("old news is not sent on", x.waiting(1, 0), 2);
        CHECK.due("ack of epoch 1", x.deliver(1, 0), ChainVersions.ACK);
        CHECK.due("ack of epoch 2", x.deliver(1, 0), ChainVersions.BUSY);
    }

    /** The tail answers with a version that the asking node has as an open one. */
    private static void answerOfAnOpenVersion() {
        ChainVersions x = new ChainVersions(3);
        x.put(0, 1, 5);
        x.put(1, 1, 6);
        Chains.along(x, 0, 1, 2);
        x.deliver(0, 1);
        CHECK.due("get", x.get(2, 0, 1), ChainVersions.ASKED);
        CHECK.due("query", x.deliver(0, 2), ChainVersions.QUERY);
        CHECK.due("answer", x.deliver(2, 0), ChainVersions.ANSWER);
        CHECK.due("first open version", x.number(2), 1);
        CHECK.due("its value", x.value(2), 5);
        CHECK.due("it is open there", x.settled(0), 0);
    }

    /** The answer is older than the clean version of the asking node, which is told then. */
    private static void answerOfAnOldVersion() {
        ChainVersions x = new ChainVersions(3);
        x.put(0, 1, 5);
        CHECK.due("get", x.get(2, 0, 1), ChainVersions.ASKED);
        CHECK.due("query", x.deliver(0, 2), ChainVersions.QUERY);
        Chains.along(x, 0, 1, 2, 1, 0);
        CHECK.due("settled meanwhile", x.settled(0), 1);
        CHECK.due("answer", x.deliver(2, 0), ChainVersions.ANSWER);
        CHECK.due("clean version", x.number(2), 1);
        CHECK.due("its value", x.value(2), 5);
    }

    /** The same, but the answer names a settled update that a later one has hidden meanwhile. */
    private static void answerOfAHiddenVersion() {
        ChainVersions x = new ChainVersions(3);
        x.put(0, 1, 5);
        Chains.quiet(x);
        x.put(0, 1, 6);
        CHECK.due("get", x.get(2, 0, 1), ChainVersions.ASKED);
        CHECK.due("query", x.deliver(0, 2), ChainVersions.QUERY);
        Chains.along(x, 0, 1, 2, 1, 0);
        CHECK.due("settled meanwhile", x.settled(0), 2);
        CHECK.due("answer", x.deliver(2, 0), ChainVersions.ANSWER);
        CHECK.due("clean version", x.number(2), 2);
        CHECK.due("its value", x.value(2), 6);
    }

    /** The version told is the key's, not any update with that number. */
    private static void answerOfAnotherKey() {
        ChainVersions x = new ChainVersions(2);
        x.put(0, 1, 5);
        x.put(1, 2, 6);
        CHECK.due("get", x.get(2, 0, 2), ChainVersions.ASKED);
        x.deliver(0, 1);
        x.deliver(0, 1);
        x.deliver(0, 1);
        x.deliver(1, 0);
        x.deliver(1, 0);
        CHECK.due("answer", x.deliver(1, 0), ChainVersions.ANSWER);
        CHECK.due("number", x.number(2), 2);
        CHECK.due("value", x.value(2), 6);
    }

    private static void notReadyTakesCopiesAlone() {
        ChainVersions x = new ChainVersions(1);
        Chains.writes(x, 0, 3);
        x.join();
        x.put(1, 1, 40);
        x.adopt(0);
        x.put(2, 1, 50);
        x.get(1, 0, 1);
        CHECK.due("copy, update, query", x.waiting(0, 1), 3);
        CHECK.due("copy", x.deliver(0, 1), ChainVersions.COPY);
        CHECK.due("length as sent", x.length(1), 4);
        CHECK.due("settled", x.settled(1), 4);
        CHECK.due("look", x.look(1, 1, 0), 40);
        CHECK.due("ack", x.waiting(1, 0), 1);
        CHECK.due("update", x.deliver(0, 1), ChainVersions.UPDATE);
        CHECK.due("query", x.deliver(0, 1), ChainVersions.QUERY);
        CHECK.due("old news", x.deliver(1, 0), ChainVersions.ACK);
        CHECK.due("news", x.deliver(1, 0), ChainVersions.ACK);
        CHECK.due("settled", x.settled(0), 5);
        CHECK.due("answer", x.deliver(1, 0), ChainVersions.ANSWER);
        CHECK.due("read", x.value(1), 50);
    }

    private static void notReadyIsBusyWithAnUpdate() {
        ChainVersions x = new ChainVersions(1);
        x.join();
        x.join();
        x.adopt(0);
        x.put(0, 0, 1);
        x.get(1, 0, 0);
        CHECK.due("query to the new tail", x.deliver(0, 2), ChainVersions.BUSY);
        CHECK.due("it stays", x.waiting(0, 2), 1);
        CHECK.due("copy of a higher epoch", x.deliver(0, 1), ChainVersions.BUSY);
        x.adopt(1);
        CHECK.due("adopted, not ready", x.length(1), -1);
        CHECK.due("no ack of a node that is not ready", x.waiting(1, 0), 0);
        CHECK.due("copy", x.deliver(0, 1), ChainVersions.COPY);
        CHECK.due("ready", x.length(1), 0);
        CHECK.due("the copy goes on", x.waiting(1, 2), 1);
        CHECK.due("ack", x.waiting(1, 0), 1);
        CHECK.due("copy", x.deliver(1, 2), ChainVersions.COPY);
        CHECK.due("query", x.deliver(0, 2), ChainVersions.QUERY);
    }

    /** A node that becomes ready in the middle keeps the sender's settled number; the tail settles all. */
    private static void copyKeepsTheSettledNumber() {
        ChainVersions x = new ChainVersions(2);
        Chains.writes(x, 0, 2);
        x.put(1, 0, 30);
        x.join();
        x.join();
        x.stop(1);
        Chains.ticks(x, 3);
        x.adopt(2);
        x.adopt(0);
        CHECK.due("head has one open", x.length(0) - x.settled(0), 1);
        CHECK.due("copy", x.deliver(0, 2), ChainVersions.COPY);
        CHECK.due("length", x.length(2), 3);
        CHECK.due("settled", x.settled(2), 2);
        CHECK.due("write under way", x.status(1), 1);
        x.adopt(3);
        CHECK.due("copy", x.deliver(2, 3), ChainVersions.COPY);
        CHECK.due("settled", x.settled(3), 3);
        CHECK.due("write done", x.number(1), 3);
        CHECK.due("write done", x.value(1), 30);
    }

    /** A ready node takes what is new to it of a copy, and sends each on. */
    private static void copyToAReadyNode() {
        ChainVersions x = new ChainVersions(3);
        x.put(0, 0, 1);
        x.deliver(0, 1);
        x.put(1, 1, 2);
        x.put(2, 2, 3);
        x.join();
        x.adopt(1);
        CHECK.due("updates of epoch 1 are lost", x.waiting(0, 1), 0);
        CHECK.due("an update of epoch 1 and a copy", x.waiting(1, 2), 2);
        CHECK.due("update", x.deliver(1, 2), ChainVersions.UPDATE);
        CHECK.due("done at the old tail", x.number(0), 1);
        CHECK.due("the old tail's ack is lost", x.waiting(2, 1), 0);
        x.adopt(0);
        CHECK.due("copy", x.deliver(0, 1), ChainVersions.COPY);
        CHECK.due("length", x.length(1), 3);
        CHECK.due("a copy and two updates", x.waiting(1, 2), 3);
        x.adopt(2);
        CHECK.due("copy", x.deliver(1, 2), ChainVersions.COPY);
        CHECK.due("nothing new", x.length(2), 1);
        CHECK.due("update", x.deliver(1, 2), ChainVersions.UPDATE);
        CHECK.due("update", x.deliver(1, 2), ChainVersions.UPDATE);
        CHECK.due("to the new node", x.waiting(2, 3), 3);
        Chains.quiet(x);
        CHECK.due("settled 0", x.settled(0), 3);
        CHECK.due("settled 3", x.settled(3), 3);
        CHECK.due("write done", x.number(2), 3);
    }

    /** What a sender takes after it sent a copy is not in that copy. */
    private static void copyIsOfItsTime() {
        ChainVersions x = new ChainVersions(2);
        x.put(0, 0, 1);
        x.stop(1);
        x.join();
        Chains.ticks(x, 3);
        x.adopt(0);
        x.put(1, 0, 2);
        x.put(2, 0, 3);
        x.adopt(2);
        CHECK.due("copy", x.deliver(0, 2), ChainVersions.COPY);
        CHECK.due("length", x.length(2), 1);
        CHECK.due("later write", x.status(1), 1);
        CHECK.due("update", x.deliver(0, 2), ChainVersions.UPDATE);
        CHECK.due("length", x.length(2), 2);
        CHECK.due("later write", x.number(1), 2);
    }

    public static void main(String[] args) {
        wrongInputs();
        orderOfSending();
        ackGoesUpOnceEach();
        answerOfAnOpenVersion();
        answerOfAnOldVersion();
        answerOfAHiddenVersion();
        answerOfAnotherKey();
        notReadyTakesCopiesAlone();
        notReadyIsBusyWithAnUpdate();
        copyKeepsTheSettledNumber();
        copyToAReadyNode();
        copyIsOfItsTime();
        CHECK.end();
    }
}
