/** Promises 5, 6 and 7: status, number, value. */
public final class ClientAnswersTest {
    private static final Check CHECK = new Check("client answers");

    private static void answers(String when, Counted x, int c, int status, int number, int value) {
        CHECK.due(when + ": status", x.status(c), status);
        CHECK.due(when + ": number", x.number(c), number);
        CHECK.due(when + ": value", x.value(c), value);
    }

    /** "BAD if there is no such client", "-1 if .. no such client", "0 if .. no such client". */
    private static void noSuchClient() {
        int[] wrong = {-1, 3, Integer.MIN_VALUE, Integer.MAX_VALUE};
        for (int c : wrong) {
            Unchanged.everywhere(CHECK, "status of client " + c, x -> x.status(c), ChainVersions.BAD);
            Unchanged.everywhere(CHECK, "number of client " + c, x -> x.number(c), -1);
            Unchanged.everywhere(CHECK, "value of client " + c, x -> x.value(c), 0);
        }
        Counted x = new Counted(1);
        for (int c = 0; c < 3; c++) {
            x.put(c, 0, 9);
            answers("client " + c, x, c, 2, c + 1, 9);
        }
    }

    /** "-1 if it is not done, there is none", "0 if it is not done, there is none"; asking changes nothing. */
    private static void noneOrNotDone() {
        answers("no request", Starts.fresh(), 0, 0, -1, 0);
        answers("write under way", Starts.underWay(), 0, 1, -1, 0);
        answers("write that found the head full", Starts.full(), 1, 1, -1, 0);
        answers("write done", Starts.allDone(), 1, 2, 2, 60);
        answers("read under way", Starts.underWay(), 2, 3, -1, 0);
        answers("read done", Starts.allDone(), 2, 4, 1, 50);
        int[] states = {1, 1, 3};
        for (int c = 0; c < 3; c++) {
            int client = c;
            Unchanged.due(CHECK, "status of client " + c, Starts::underWay, x -> x.status(client), states[c]);
            Unchanged.due(CHECK, "number of client " + c, Starts::underWay, x -> x.number(client), -1);
            Unchanged.due(CHECK, "value of client " + c, Starts::underWay, x -> x.value(client), 0);
        }
    }

    /** A read of a key with no settled update is done with 0 and 0, and a write may be done with the value -1. */
    private static void doneWithTheAnswersOfNone() {
        Counted x = new Counted(1);
        x.get(0, 0, 3);
        answers("read of nothing", x, 0, 4, 0, 0);
        x.put(1, 3, -1);
        answers("write of -1", x, 1, 2, 1, -1);
        x.put(2, 3, 0);
        answers("write of 0", x, 2, 2, 2, 0);
    }

    /** A refused call leaves the latest request what it was. */
    private static void refusedLeavesTheLatest() {
        Counted x = Starts.allDone();
        x.put(0, 4, 9);
        answers("after a BAD put", x, 0, 2, 1, 50);
        x.get(0, 6, 0);
        answers("after a BAD get", x, 0, 2, 1, 50);
        x.get(0, 2, 0);
        answers("after a LOST get", x, 0, 2, 1, 50);
        x.retry(0, 0);
        answers("after a retry that is SETTLED", x, 0, 2, 1, 50);
        x.retry(2, 0);
        answers("after a retry that is IDLE", x, 2, 4, 1, 50);
    }

    /** A write that is done is settled once more by another tail: it stays done with what it was. */
    private static void settledByTwoTails() {
        Counted x = new Counted(3);
        x.put(0, 1, 5);
        Chains.along(x, 0, 1, 2);
        answers("done at the first tail", x, 0, 2, 1, 5);
        x.put(0, 1, 6);
        x.deliver(0, 1);
        answers("the next under way", x, 0, 1, -1, 0);
        Chains.drop(x, 2);
        x.adopt(1);
        CHECK.due("the next tail settles both", x.settled(1), 2);
        answers("the next done", x, 0, 2, 2, 6);
        x.stop(1);
        Chains.ticks(x, 3);
        x.adopt(0);
        CHECK.due("the last one settles both too", x.settled(0), 2);
        answers("it stays", x, 0, 2, 2, 6);
    }

    private static void writeAndRead() {
        Counted x = new Counted(2);
        answers("at first", x, 0, 0, -1, 0);
        x.put(0, 1, -7);
        answers("write under way", x, 0, 1, -1, 0);
        x.deliver(0, 1);
        answers("write done at the tail", x, 0, 2, 1, -7);
        x.put(1, 1, 8);
        x.deliver(0, 1);
        answers("another write does not change it", x, 0, 2, 1, -7);
        answers("the other one", x, 1, 2, 2, 8);
        x.get(0, 0, 1);
        answers("read under way hides the write", x, 0, 3, -1, 0);
        x.deliver(0, 1);
        x.deliver(1, 0);
        x.deliver(1, 0);
        x.deliver(1, 0);
        answers("read done", x, 0, 4, 2, 8);
        x.put(2, 1, 9);
        Chains.quiet(x);
        answers("a read stays what it was", x, 0, 4, 2, 8);
        x.put(0, 3, 1);
        answers("new write under way hides the read", x, 0, 1, -1, 0);
        answers("client 1", x, 1, 2, 2, 8);
    }

    /** An open update of an old request must not end the client's later write. */
    private static void onlyTheLatestRequestIsDone() {
        Counted x = new Counted(2);
        x.put(0, 1, 5);
        x.deliver(0, 1);
        CHECK.due("second write, the first open at the head", x.put(0, 1, 6), ChainVersions.TAKEN);
        x.stop(1);
        Chains.ticks(x, 3);
        answers("before adoption", x, 0, 1, -1, 0);
        x.adopt(0);
        answers("all settled", x, 0, 2, 2, 6);
    }

    /** The same, but the later request is lost: settling the old update leaves it under way. */
    private static void oldUpdateDoesNotEndALaterWrite() {
        Counted x = new Counted(2);
        for (int i = 1; i <= 8; i++) {
            x.put(0, 1, i);
            x.deliver(0, 1);
        }
        CHECK.due("full", x.put(0, 1, 9), ChainVersions.FULL);
        x.stop(1);
        Chains.ticks(x, 3);
        x.adopt(0);
        CHECK.due("settled", x.settled(0), 8);
        answers("the refused write", x, 0, 1, -1, 0);
        CHECK.due("retry", x.retry(0, 0), ChainVersions.TAKEN);
        answers("after retry", x, 0, 2, 9, 9);
    }

    /** Settling an update does not end a read of its client. */
    private static void oldUpdateDoesNotEndARead() {
        Counted x = new Counted(3);
        x.put(0, 1, 5);
        Chains.along(x, 0, 1, 2);
        CHECK.due("write done", x.status(0), 2);
        CHECK.due("get", x.get(0, 0, 1), ChainVersions.ASKED);
        x.stop(2);
        x.stop(1);
        Chains.ticks(x, 3);
        answers("read waits", x, 0, 3, -1, 0);
        x.adopt(0);
        answers("served again", x, 0, 4, 1, 5);
    }

    public static void main(String[] args) {
        noSuchClient();
        noneOrNotDone();
        doneWithTheAnswersOfNone();
        refusedLeavesTheLatest();
        settledByTwoTails();
        writeAndRead();
        onlyTheLatestRequestIsDone();
        oldUpdateDoesNotEndALaterWrite();
        oldUpdateDoesNotEndARead();
        CHECK.end();
    }
}
