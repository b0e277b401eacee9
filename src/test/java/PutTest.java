/** Promise 2, and TO SEND and TO TAKE. */
public final class PutTest {
    private static final Check CHECK = new Check("put");

    private static void wrongInputs() {
        ChainVersions x = new ChainVersions(2);
        int[] wrongClients = {-1, 3, Integer.MIN_VALUE, Integer.MAX_VALUE};
        int[] wrongKeys = {-1, 4, Integer.MIN_VALUE, Integer.MAX_VALUE};
        for (int c : wrongClients) {
            CHECK.due("put by client " + c, x.put(c, 0, 1), ChainVersions.BAD);
        }
        for (int key : wrongKeys) {
            CHECK.due("put of key " + key, x.put(0, key, 1), ChainVersions.BAD);
        }
        CHECK.due("status after BAD", x.status(0), 0);
        CHECK.due("length after BAD", x.length(0), 0);
        x.put(0, 0, 1);
        CHECK.due("BAD comes before BUSY", x.put(0, 4, 1), ChainVersions.BAD);
        CHECK.due("BUSY", x.put(0, 3, 1), ChainVersions.BUSY);
        CHECK.due("length after BUSY", x.length(0), 1);
        CHECK.due("BUSY with a read under way", x.get(1, 0, 0), ChainVersions.ASKED);
        CHECK.due("BUSY with a read under way", x.put(1, 3, 1), ChainVersions.BUSY);
        CHECK.due("the read goes on", x.status(1), 3);
    }

    private static void lastKeyAndClient() {
        ChainVersions x = new ChainVersions(1);
        CHECK.due("put(2, 3)", x.put(2, 3, Integer.MIN_VALUE), ChainVersions.TAKEN);
        CHECK.due("number", x.number(2), 1);
        CHECK.due("value", x.value(2), Integer.MIN_VALUE);
        CHECK.due("put again", x.put(2, 3, Integer.MAX_VALUE), ChainVersions.TAKEN);
        CHECK.due("number", x.number(2), 2);
        CHECK.due("value", x.value(2), Integer.MAX_VALUE);
    }

    private static void lostWhenTheHeadStopped() {
        ChainVersions x = new ChainVersions(3);
        x.stop(0);
        CHECK.due("put to a stopped head", x.put(0, 1, 11), ChainVersions.LOST);
        CHECK.due("the lost write is under way", x.status(0), 1);
        CHECK.due("length 1", x.length(1), 0);
        Chains.ticks(x, 3);
        CHECK.due("first member has not adopted", x.put(1, 1, 12), ChainVersions.LOST);
        CHECK.due("that write is under way", x.status(1), 1);
        CHECK.due("and busy", x.put(1, 1, 13), ChainVersions.BUSY);
        x.adopt(1);
        CHECK.due("put after adoption", x.put(2, 1, 14), ChainVersions.TAKEN);
        CHECK.due("retry of the lost one", x.retry(0, 0), ChainVersions.TAKEN);
        CHECK.due("its version", x.look(1, 1, 2), 11);
    }

    /** The clients write on while no word of it reaches the head. */
    private static ChainVersions withOpen(int count) {
        ChainVersions x = new ChainVersions(2);
        for (int i = 1; i <= count; i++) {
            CHECK.due("put " + i, x.put(0, i % 4, i), ChainVersions.TAKEN);
            CHECK.due("deliver " + i, x.deliver(0, 1), ChainVersions.UPDATE);
            CHECK.due("done " + i, x.number(0), i);
        }
        return x;
    }

    private static void fullWithEightOpen() {
        ChainVersions x = withOpen(8);
        CHECK.due("ninth", x.put(1, 0, 9), ChainVersions.FULL);
        CHECK.due("the refused write is under way", x.status(1), 1);
        CHECK.due("it is not done", x.number(1), -1);
        CHECK.due("length", x.length(0), 8);
        CHECK.due("waiting", x.waiting(0, 1), 0);
        CHECK.due("a known one is looked for first", x.retry(0, 0), ChainVersions.KNOWN);
        CHECK.due("still full", x.retry(1, 0), ChainVersions.FULL);
        CHECK.due("one is settled", x.deliver(1, 0), ChainVersions.ACK);
        CHECK.due("settled", x.settled(0), 1);
        CHECK.due("no more full", x.retry(1, 0), ChainVersions.TAKEN);
        CHECK.due("full again", x.put(2, 0, 10), ChainVersions.FULL);
    }

    private static void sevenOpenIsNotFull() {
        ChainVersions x = withOpen(7);
        CHECK.due("eighth", x.put(1, 0, 8), ChainVersions.TAKEN);
    }

    private static void fullAtLengthHundred() {
        ChainVersions x = new ChainVersions(1);
        Chains.writes(x, 2, 99);
        CHECK.due("length", x.length(0), 99);
        CHECK.due("hundredth", x.put(1, 2, 100), ChainVersions.TAKEN);
        CHECK.due("number", x.number(1), 100);
        CHECK.due("one too many", x.put(1, 2, 101), ChainVersions.FULL);
        CHECK.due("length", x.length(0), 100);
        CHECK.due("status", x.status(1), 1);
        CHECK.due("retry", x.retry(1, 0), ChainVersions.FULL);
        CHECK.due("the first client's latest", x.retry(0, 0), ChainVersions.SETTLED);
        CHECK.due("look", x.look(0, 2, 0), 100);
    }

    private static void headOfAnOldView() {
        ChainVersions x = new ChainVersions(2);
        x.join();
        CHECK.due("head with an old view", x.put(0, 0, 1), ChainVersions.TAKEN);
        CHECK.due("to its old successor", x.deliver(0, 1), ChainVersions.UPDATE);
        CHECK.due("the old tail settles", x.number(0), 1);
        x.adopt(1);
        CHECK.due("taken", x.put(0, 0, 2), ChainVersions.TAKEN);
        CHECK.due("but lost on the way", x.waiting(0, 1), 0);
    }

    public static void main(String[] args) {
        wrongInputs();
        lastKeyAndClient();
        lostWhenTheHeadStopped();
        fullWithEightOpen();
        sevenOpenIsNotFull();
        fullAtLengthHundred();
        headOfAnOldView();
        CHECK.end();
    }
}
