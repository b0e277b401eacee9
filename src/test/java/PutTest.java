/** Promise 2: what put refuses, and what it begins. What becomes of a write that is sent is in SendTest. */
public final class PutTest {
    private static final Check CHECK = new Check("put");
    private static final int[] NO_CLIENTS = {-1, 3, Integer.MIN_VALUE, Integer.MAX_VALUE};
    private static final int[] NO_KEYS = {-1, 4, Integer.MIN_VALUE, Integer.MAX_VALUE};

    /** "BAD if there is no such client", before all else: the head may have stopped or be full. */
    private static void noSuchClient() {
        for (int c : NO_CLIENTS) {
            Unchanged.everywhere(CHECK, "put by client " + c, x -> x.put(c, 0, 7), ChainVersions.BAD);
        }
        CHECK.due("put by client 0", new Counted(3).put(0, 0, 7), ChainVersions.TAKEN);
        CHECK.due("put by client 2", new Counted(3).put(2, 0, 7), ChainVersions.TAKEN);
    }

    /** "BAD if there is no such .. key; then BUSY": BAD also for a client whose request is under way. */
    private static void noSuchKey() {
        for (int key : NO_KEYS) {
            for (int c = 0; c < 3; c++) {
                int client = c;
                Unchanged.everywhere(CHECK, "put of key " + key + " by client " + c, x -> x.put(client, key, 7),
                    ChainVersions.BAD);
            }
        }
        CHECK.due("put of key 0", new Counted(3).put(0, 0, 7), ChainVersions.TAKEN);
        CHECK.due("put of key 3", new Counted(3).put(0, 3, 7), ChainVersions.TAKEN);
    }

    /** "then BUSY if a request of the client is under way": a write or a read. */
    private static void busy() {
        Unchanged.due(CHECK, "put, a write under way", Starts::underWay, x -> x.put(0, 3, 7), ChainVersions.BUSY);
        Unchanged.due(CHECK, "put, a read under way", Starts::underWay, x -> x.put(2, 3, 7), ChainVersions.BUSY);
        Unchanged.due(CHECK, "put of the same once more", Starts::underWay, x -> x.put(1, 2, 60), ChainVersions.BUSY);
        Unchanged.due(CHECK, "put, the write under way found the head full", Starts::full, x -> x.put(1, 0, 7),
            ChainVersions.BUSY);
        Unchanged.due(CHECK, "put, the write under way found the length 100", Starts::hundred, x -> x.put(1, 0, 7),
            ChainVersions.BUSY);
        Unchanged.due(CHECK, "put, the head stopped meanwhile", Starts::changing, x -> x.put(0, 0, 7),
            ChainVersions.BUSY);
        Unchanged.due(CHECK, "put, the write under way was lost", PutTest::lostWrite, x -> x.put(0, 0, 7),
            ChainVersions.BUSY);
    }

    private static Counted lostWrite() {
        Counted x = new Counted(2);
        x.stop(0);
        x.put(0, 1, 5);
        return x;
    }

    /** The nearest other side of BUSY: the request was done by the call before. */
    private static void notBusyWhenDone() {
        Counted x = new Counted(2);
        x.put(0, 1, 5);
        x.put(1, 2, 6);
        CHECK.due("under way", x.put(0, 1, 7), ChainVersions.BUSY);
        CHECK.due("to the tail", x.deliver(0, 1), ChainVersions.UPDATE);
        CHECK.due("done", x.put(0, 1, 7), ChainVersions.TAKEN);
        CHECK.due("the other client's is not", x.put(1, 1, 7), ChainVersions.BUSY);
        x = new Counted(2);
        x.put(0, 1, 5);
        x.get(1, 0, 1);
        Chains.along(x, 0, 1);
        x.deliver(0, 1);
        x.deliver(1, 0);
        CHECK.due("read under way", x.put(1, 1, 7), ChainVersions.BUSY);
        CHECK.due("answer", x.deliver(1, 0), ChainVersions.ANSWER);
        CHECK.due("read done", x.put(1, 1, 7), ChainVersions.TAKEN);
        CHECK.due("no request before", x.put(2, 1, 7), ChainVersions.TAKEN);
    }

    /** "values any int". */
    private static void anyValue() {
        int[] values = {Integer.MIN_VALUE, -3, -2, -1, 0, 1, Integer.MAX_VALUE};
        Counted x = new Counted(1);
        for (int i = 0; i < values.length; i++) {
            CHECK.due("put of " + values[i], x.put(2, 3, values[i]), ChainVersions.TAKEN);
            CHECK.due("number", x.number(2), i + 1);
            CHECK.due("value", x.value(2), values[i]);
            CHECK.due("look", x.look(0, 3, 0), values[i]);
        }
    }

    /** "(the write is under way also when it is lost or the head is full)". */
    private static void underWayWhenLostOrFull() {
        Counted x = new Counted(2);
        x.stop(0);
        CHECK.due("to a stopped head", x.put(0, 1, 11), ChainVersions.LOST);
        CHECK.due("lost: status", x.status(0), 1);
        CHECK.due("lost: number", x.number(0), -1);
        x = Chains.withOpen(8);
        CHECK.due("to a full head", x.put(1, 1, 11), ChainVersions.FULL);
        CHECK.due("full: status", x.status(1), 1);
        CHECK.due("full: number", x.number(1), -1);
        CHECK.due("full: value", x.value(1), 0);
        x = Chains.withOpen(7);
        CHECK.due("to a head that is not full", x.put(1, 1, 11), ChainVersions.TAKEN);
        CHECK.due("taken: status", x.status(1), 1);
        x = new Counted(1);
        CHECK.due("to a head that is the tail", x.put(1, 1, 11), ChainVersions.TAKEN);
        CHECK.due("settled at once: status", x.status(1), 2);
    }

    public static void main(String[] args) {
        noSuchClient();
        noSuchKey();
        busy();
        notBusyWhenDone();
        anyValue();
        underWayWhenLostOrFull();
        CHECK.end();
    }
}
