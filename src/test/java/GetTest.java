/** Promise 3, and TO SERVE. */
public final class GetTest {
    private static final Check CHECK = new Check("get");

    private static void wrongInputs() {
        ChainVersions x = new ChainVersions(2);
        CHECK.due("client -1", x.get(-1, 0, 0), ChainVersions.BAD);
        CHECK.due("client 3", x.get(3, 0, 0), ChainVersions.BAD);
        CHECK.due("key -1", x.get(0, 0, -1), ChainVersions.BAD);
        CHECK.due("key 4", x.get(0, 0, 4), ChainVersions.BAD);
        CHECK.due("node -1", x.get(0, -1, 0), ChainVersions.BAD);
        CHECK.due("node 6", x.get(0, 6, 0), ChainVersions.BAD);
        CHECK.due("node 5", x.get(0, 5, 0), ChainVersions.LOST);
        CHECK.due("status", x.status(0), 0);
        x.put(0, 0, 1);
        CHECK.due("BAD before BUSY", x.get(0, 6, 0), ChainVersions.BAD);
        CHECK.due("BUSY before LOST", x.get(0, 5, 0), ChainVersions.BUSY);
        CHECK.due("BUSY", x.get(0, 1, 0), ChainVersions.BUSY);
        x.get(1, 0, 0);
        CHECK.due("BUSY with a read", x.get(1, 1, 0), ChainVersions.BUSY);
    }

    private static void lostChangesNothing() {
        ChainVersions x = new ChainVersions(2);
        x.put(0, 1, 8);
        Chains.quiet(x);
        x.stop(1);
        CHECK.due("stopped node", x.get(0, 1, 1), ChainVersions.LOST);
        CHECK.due("the write is still the latest", x.status(0), 2);
        CHECK.due("with its number", x.number(0), 1);
        CHECK.due("join", x.join(), 2);
        CHECK.due("node that is not ready", x.get(0, 2, 1), ChainVersions.LOST);
        CHECK.due("node not made", x.get(0, 3, 1), ChainVersions.LOST);
        CHECK.due("status", x.status(0), 2);
    }

    private static void cleanKeyIsRead() {
        ChainVersions x = new ChainVersions(3);
        x.put(0, 1, 5);
        CHECK.due("other key", x.get(1, 0, 2), ChainVersions.READ);
        CHECK.due("number", x.number(1), 0);
        CHECK.due("value", x.value(1), 0);
        CHECK.due("status", x.status(1), 4);
        CHECK.due("nothing was asked", x.waiting(0, 2), 0);
        CHECK.due("node behind", x.get(1, 2, 1), ChainVersions.READ);
        CHECK.due("it knows nothing yet", x.number(1), 0);
        Chains.quiet(x);
        CHECK.due("settled", x.get(1, 1, 1), ChainVersions.READ);
        CHECK.due("number", x.number(1), 1);
        CHECK.due("value", x.value(1), 5);
    }

    private static void openKeyAsksTheTail() {
        ChainVersions x = new ChainVersions(3);
        x.put(0, 1, 5);
        CHECK.due("get", x.get(1, 0, 1), ChainVersions.ASKED);
        CHECK.due("status", x.status(1), 3);
        CHECK.due("number", x.number(1), -1);
        CHECK.due("value", x.value(1), 0);
        CHECK.due("to the tail, not the successor", x.waiting(0, 2), 1);
        CHECK.due("the successor has the update alone", x.waiting(0, 1), 1);
        CHECK.due("query", x.deliver(0, 2), ChainVersions.QUERY);
        CHECK.due("answer", x.deliver(2, 0), ChainVersions.ANSWER);
        CHECK.due("the clean version of the tail", x.number(1), 0);
        CHECK.due("value", x.value(1), 0);
    }

    private static void tailThatIsNotReadyIsAskedToo() {
        ChainVersions x = new ChainVersions(1);
        x.join();
        x.adopt(0);
        x.put(0, 0, 3);
        CHECK.due("get", x.get(1, 0, 0), ChainVersions.ASKED);
        CHECK.due("copy, update, query", x.waiting(0, 1), 3);
    }

    private static void stoppedTailIsAskedInVain() {
        ChainVersions x = new ChainVersions(2);
        x.put(0, 0, 3);
        x.stop(1);
        CHECK.due("get", x.get(1, 0, 0), ChainVersions.ASKED);
        CHECK.due("lost query", x.waiting(0, 1), 0);
        CHECK.due("it waits", x.status(1), 3);
        Chains.ticks(x, 3);
        CHECK.due("adopt", x.adopt(0), true);
        CHECK.due("served again", x.status(1), 4);
        CHECK.due("number", x.number(1), 1);
        CHECK.due("value", x.value(1), 3);
    }

    public static void main(String[] args) {
        wrongInputs();
        lostChangesNothing();
        cleanKeyIsRead();
        openKeyAsksTheTail();
        tailThatIsNotReadyIsAskedToo();
        stoppedTailIsAskedInVain();
        CHECK.end();
    }
}
