/** Promises 5, 6 and 7: status, number, value. */
public final class ClientAnswersTest {
    private static final Check CHECK = new Check("client answers");

    private static void answers(String when, ChainVersions x, int c, int status, int number, int value) {
        CHECK.due(when + ": status", x.status(c), status);
        CHECK.due(when + ": number", x.number(c), number);
        CHECK.due(when + ": value", x.value(c), value);
    }

    private static void wrongClients() {
        ChainVersions x = new ChainVersions(1);
        x.put(0, 0, 9);
        x.put(2, 0, 9);
        int[] wrong = {-1, 3, Integer.MIN_VALUE, Integer.MAX_VALUE};
        for (int c : wrong) {
            answers("client " + c, x, c, ChainVersions.BAD, -1, 0);
        }
    }

    private static void writeAndRead() {
        ChainVersions x = new ChainVersions(2);
        answers("at first", x, 0, 0, -1, 0);
        x.put(0, 1, -7);
        answers("write under way", x, 0, 1, -1, 0);
        x.deliver(0, 1);
        answers("write done at the tail", x, 0, 2, 1, -7);
        x.put(1, 1, 8);
        x.deliver(0, 1);
        answers("another write does not change it", x, 0, 2, 1, -7);
        answers("the other one", x, 1, 2, 2, 8);
        x.get(0, 0, 1);
        answers("read under way hides the write", x, 0, 3, -1, 0);
        x.deliver(0, 1);
        x.deliver(1, 0);
        x.deliver(1, 0);
        x.deliver(1, 0);
        answers("read done", x, 0, 4, 2, 8);
        x.put(2, 1, 9);
        Chains.quiet(x);
        answers("a read stays what it was", x, 0, 4, 2, 8);
        x.put(0, 3, 1);
        answers("new write under way hides the read", x, 0, 1, -1, 0);
        answers("client 1", x, 1, 2, 2, 8);
    }

    /** An open update of an old request must not end the client's later write. */
    private static void onlyTheLatestRequestIsDone() {
        ChainVersions x = new ChainVersions(2);
        x.put(0, 1, 5);
        x.deliver(0, 1);
        CHECK.due("second write, the first open at the head", x.put(0, 1, 6), ChainVersions.TAKEN);
        x.stop(1);
        Chains.ticks(x, 3);
        answers("before adoption", x, 0, 1, -1, 0);
        x.adopt(0);
        answers("all settled", x, 0, 2, 2, 6);
    }

    /** The same, but the later request is lost: settling the old update leaves it under way. */
    private static void oldUpdateDoesNotEndALaterWrite() {
        ChainVersions x = new ChainVersions(2);
        for (int i = 1; i <= 8; i++) {
            x.put(0, 1, i);
            x.deliver(0, 1);
        }
        CHECK.due("full", x.put(0, 1, 9), ChainVersions.FULL);
        x.stop(1);
        Chains.ticks(x, 3);
        x.adopt(0);
        CHECK.due("settled", x.settled(0), 8);
        answers("the refused write", x, 0, 1, -1, 0);
        CHECK.due("retry", x.retry(0, 0), ChainVersions.TAKEN);
        answers("after retry", x, 0, 2, 9, 9);
    }

    /** Settling an update does not end a read of its client. */
    private static void oldUpdateDoesNotEndARead() {
        ChainVersions x = new ChainVersions(3);
        x.put(0, 1, 5);
        Chains.along(x, 0, 1, 2);
        CHECK.due("write done", x.status(0), 2);
        CHECK.due("get", x.get(0, 0, 1), ChainVersions.ASKED);
        x.stop(2);
        x.stop(1);
        Chains.ticks(x, 3);
        answers("read waits", x, 0, 3, -1, 0);
        x.adopt(0);
        answers("served again", x, 0, 4, 1, 5);
    }

    public static void main(String[] args) {
        wrongClients();
        writeAndRead();
        onlyTheLatestRequestIsDone();
        oldUpdateDoesNotEndALaterWrite();
        oldUpdateDoesNotEndARead();
        CHECK.end();
    }
}
