/** Promise 4. */
public final class RetryTest {
    private static final Check CHECK = new Check("retry");

    private static void badAndIdle() {
        ChainVersions x = new ChainVersions(2);
        CHECK.due("client -1", x.retry(-1, 0), ChainVersions.BAD);
        CHECK.due("client 3", x.retry(3, 0), ChainVersions.BAD);
        CHECK.due("no request", x.retry(0, 0), ChainVersions.IDLE);
        CHECK.due("no request, wrong node", x.retry(0, 9), ChainVersions.IDLE);
        x.get(0, 0, 0);
        CHECK.due("read that is done", x.retry(0, 1), ChainVersions.IDLE);
        CHECK.due("status", x.status(0), 4);
    }

    private static void write() {
        ChainVersions x = new ChainVersions(2);
        x.put(0, 1, 5);
        CHECK.due("open at the head", x.retry(0, 0), ChainVersions.KNOWN);
        CHECK.due("node is not looked at", x.retry(0, -9), ChainVersions.KNOWN);
        CHECK.due("nothing was sent", x.waiting(0, 1), 1);
        x.deliver(0, 1);
        CHECK.due("done, open at the head", x.status(0), 2);
        CHECK.due("done, open at the head", x.retry(0, 77), ChainVersions.KNOWN);
        x.deliver(1, 0);
        CHECK.due("settled at the head", x.retry(0, 0), ChainVersions.SETTLED);
        CHECK.due("still done", x.number(0), 1);
        x.put(1, 1, 6);
        CHECK.due("other client's update is another", x.retry(1, 0), ChainVersions.KNOWN);
        CHECK.due("length", x.length(0), 2);
        x.stop(0);
        CHECK.due("done write to a stopped head", x.retry(0, 1), ChainVersions.LOST);
        CHECK.due("it stays done", x.status(0), 2);
    }

    private static void requestNumbersTellWritesApart() {
        ChainVersions x = new ChainVersions(1);
        x.put(0, 1, 5);
        x.put(0, 1, 5);
        CHECK.due("the same write again is a new one", x.length(0), 2);
        x.get(0, 0, 1);
        x.put(0, 1, 5);
        CHECK.due("a read does not use up the write before it", x.length(0), 3);
        CHECK.due("retry", x.retry(0, 0), ChainVersions.SETTLED);
        CHECK.due("length", x.length(0), 3);
        CHECK.due("number", x.number(0), 3);
    }

    /** Client 0 wrote 5 at a head that stopped before it reached another node; client 1 wrote 6 settled. */
    private static void writeThatDiedIsTakenAnew() {
        ChainVersions x = new ChainVersions(3);
        x.put(1, 2, 6);
        Chains.quiet(x);
        x.put(0, 1, 5);
        Chains.drop(x, 0);
        CHECK.due("update on the way from the stopped head", x.waiting(0, 1), 1);
        x.adopt(1);
        CHECK.due("is lost by adoption", x.waiting(0, 1), 0);
        CHECK.due("retry", x.retry(0, 0), ChainVersions.TAKEN);
        CHECK.due("its number", x.version(1, 1, 1), 2);
        CHECK.due("retry", x.retry(0, 0), ChainVersions.KNOWN);
        CHECK.due("settled by the head before", x.retry(1, 0), ChainVersions.SETTLED);
        x.adopt(2);
        Chains.quiet(x);
        CHECK.due("done", x.number(0), 2);
        CHECK.due("done", x.value(0), 5);
    }

    private static ChainVersions readWaitsAt1() {
        ChainVersions x = new ChainVersions(3);
        x.put(0, 1, 5);
        x.deliver(0, 1);
        CHECK.due("get", x.get(2, 1, 1), ChainVersions.ASKED);
        return x;
    }

    private static void readUnderWay() {
        ChainVersions x = readWaitsAt1();
        CHECK.due("its node lives", x.retry(2, 2), ChainVersions.BUSY);
        CHECK.due("BUSY before BAD", x.retry(2, 6), ChainVersions.BUSY);
        x.stop(1);
        CHECK.due("BAD node", x.retry(2, 6), ChainVersions.BAD);
        CHECK.due("BAD node", x.retry(2, -1), ChainVersions.BAD);
        CHECK.due("stopped node", x.retry(2, 1), ChainVersions.LOST);
        CHECK.due("node not made", x.retry(2, 5), ChainVersions.LOST);
        CHECK.due("join", x.join(), 3);
        CHECK.due("node not ready", x.retry(2, 3), ChainVersions.LOST);
        CHECK.due("still under way", x.status(2), 3);
        CHECK.due("served where it is open", x.retry(2, 0), ChainVersions.ASKED);
        CHECK.due("waits at a living node now", x.retry(2, 2), ChainVersions.BUSY);
        CHECK.due("query to the tail", x.deliver(0, 2), ChainVersions.QUERY);
        CHECK.due("answer", x.deliver(2, 0), ChainVersions.ANSWER);
        CHECK.due("done", x.number(2), 0);
        CHECK.due("idle", x.retry(2, 0), ChainVersions.IDLE);
    }

    /** The stopped node's query still waits; what becomes of it must not touch the read that moved on. */
    private static void oldQueryIsNoMatter() {
        ChainVersions x = readWaitsAt1();
        x.stop(1);
        CHECK.due("served where it is clean", x.retry(2, 2), ChainVersions.READ);
        CHECK.due("number", x.number(2), 0);
        CHECK.due("update of the stopped node", x.deliver(1, 2), ChainVersions.UPDATE);
        CHECK.due("its query", x.deliver(1, 2), ChainVersions.QUERY);
        CHECK.due("the answer is lost", x.waiting(2, 1), 0);
        CHECK.due("number", x.number(2), 0);
        CHECK.due("status", x.status(2), 4);
    }

    public static void main(String[] args) {
        badAndIdle();
        write();
        requestNumbersTellWritesApart();
        writeThatDiedIsTakenAnew();
        readUnderWay();
        oldQueryIsNoMatter();
        CHECK.end();
    }
}
