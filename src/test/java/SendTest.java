/** TO SEND, which puts and retries go through: promises 2 and 4. */
public final class SendTest {
    private static final Check CHECK = new Check("send");

    /** "LOST: that node has stopped". */
    private static void headHasStopped() {
        CHECK.due("put to a living head", new Counted(3).put(0, 1, 11), ChainVersions.TAKEN);
        Starts.Start stopped = () -> {
            Counted x = new Counted(3);
            x.stop(0);
            return x;
        };
        Unchanged.atNodes(CHECK, "put to a stopped head", stopped, x -> x.put(0, 1, 11), ChainVersions.LOST);
        Counted x = new Counted(3);
        x.stop(1);
        x.stop(2);
        CHECK.due("put, all but the head have stopped", x.put(0, 1, 11), ChainVersions.TAKEN);
    }

    /** "LOST: that node .. is not the head in its own view", though it is the first member of the newest one. */
    private static void notHeadInItsOwnView() {
        Starts.Start dropped = () -> {
            Counted x = new Counted(3);
            Chains.drop(x, 0);
            return x;
        };
        Unchanged.atNodes(CHECK, "put before adoption", dropped, x -> x.put(0, 1, 11), ChainVersions.LOST);
        Counted x = dropped.make();
        CHECK.due("put", x.put(0, 1, 11), ChainVersions.LOST);
        CHECK.due("another node adopts", x.adopt(2), true);
        CHECK.due("retry", x.retry(0, 0), ChainVersions.LOST);
        CHECK.due("the first member adopts", x.adopt(1), true);
        CHECK.due("retry", x.retry(0, 0), ChainVersions.TAKEN);
        CHECK.due("put", x.put(1, 1, 12), ChainVersions.TAKEN);
        CHECK.due("its log", x.look(1, 1, 1), 11);
        CHECK.due("its log", x.look(1, 1, 2), 12);
    }

    /** The head's own view need not be the newest one. */
    private static void headInAnOldView() {
        Counted x = new Counted(2);
        x.join();
        CHECK.due("put, a node joined", x.put(0, 0, 1), ChainVersions.TAKEN);
        CHECK.due("to its old successor", x.deliver(0, 1), ChainVersions.UPDATE);
        CHECK.due("the old tail settles", x.number(0), 1);
        x.adopt(1);
        CHECK.due("put, the successor went on", x.put(0, 0, 2), ChainVersions.TAKEN);
        CHECK.due("but lost on the way", x.waiting(0, 1), 0);
        x = new Counted(3);
        Chains.drop(x, 1);
        CHECK.due("put, a node was dropped", x.put(0, 0, 1), ChainVersions.TAKEN);
        CHECK.due("to its old successor alone", x.waiting(0, 2), 0);
    }

    /** "SETTLED when that update is settled there, KNOWN when it is open": there is at the head, not at the tail. */
    private static void knownAndSettled() {
        Starts.Start open = () -> {
            Counted x = new Counted(2);
            x.put(0, 1, 5);
            return x;
        };
        Starts.Start settledAtTheTail = () -> {
            Counted x = open.make();
            x.deliver(0, 1);
            return x;
        };
        Starts.Start settledAtTheHead = () -> {
            Counted x = settledAtTheTail.make();
            x.deliver(1, 0);
            return x;
        };
        Unchanged.due(CHECK, "retry, open", open, x -> x.retry(0, 0), ChainVersions.KNOWN);
        Unchanged.due(CHECK, "retry, done and open", settledAtTheTail, x -> x.retry(0, 0), ChainVersions.KNOWN);
        Unchanged.due(CHECK, "retry, settled", settledAtTheHead, x -> x.retry(0, 0), ChainVersions.SETTLED);
        CHECK.due("still under way", open.make().status(0), 1);
        CHECK.due("done", settledAtTheTail.make().status(0), 2);
    }

    /** "if it holds an update of that client with that request number": both must be the same. */
    private static void clientAndRequestNumber() {
        Counted x = new Counted(2);
        CHECK.due("first of client 0", x.put(0, 1, 5), ChainVersions.TAKEN);
        CHECK.due("first of client 1, all else alike", x.put(1, 1, 5), ChainVersions.TAKEN);
        CHECK.due("length", x.length(0), 2);
        x.deliver(0, 1);
        CHECK.due("second of client 0, all else alike", x.put(0, 1, 5), ChainVersions.TAKEN);
        CHECK.due("length", x.length(0), 3);
        CHECK.due("retry", x.retry(0, 0), ChainVersions.KNOWN);
        CHECK.due("retry", x.retry(1, 0), ChainVersions.KNOWN);
        CHECK.due("length", x.length(0), 3);
    }

    /** A new head knows what it took while it was none, and not what never came to it. */
    private static void heldByTheNewHead() {
        Counted x = new Counted(3);
        x.put(0, 1, 5);
        x.put(1, 1, 6);
        x.deliver(0, 1);
        Chains.drop(x, 0);
        CHECK.due("before adoption", x.retry(0, 0), ChainVersions.LOST);
        x.adopt(1);
        CHECK.due("what came to it", x.retry(0, 0), ChainVersions.KNOWN);
        CHECK.due("what did not", x.retry(1, 0), ChainVersions.TAKEN);
        CHECK.due("length", x.length(1), 2);
        CHECK.due("once taken", x.retry(1, 0), ChainVersions.KNOWN);
    }

    /** "FULL, if it has eight open updates": seven are not eight. */
    private static void sevenAndEightOpen() {
        CHECK.due("with seven", Chains.withOpen(7).put(1, 0, 9), ChainVersions.TAKEN);
        Unchanged.atNodes(CHECK, "with eight", () -> Chains.withOpen(8), x -> x.put(1, 0, 9), ChainVersions.FULL);
        Unchanged.due(CHECK, "retry with eight", Starts::full, x -> x.retry(1, 0), ChainVersions.FULL);
        Counted x = Starts.full();
        CHECK.due("length", x.length(0), 8);
        CHECK.due("open at the head alone", x.settled(1), 8);
        CHECK.due("one is settled", x.deliver(1, 0), ChainVersions.ACK);
        CHECK.due("settled", x.settled(0), 1);
        CHECK.due("retry with seven", x.retry(1, 0), ChainVersions.TAKEN);
        CHECK.due("length", x.length(0), 9);
        CHECK.due("with eight again", x.put(2, 0, 10), ChainVersions.FULL);
    }

    /** Open updates of any key count, and settled ones do not. */
    private static void openOfAnyKey() {
        Counted x = new Counted(2);
        Chains.writes(x, 1, 5);
        for (int i = 0; i < 8; i++) {
            CHECK.due("put after five that are settled", x.put(0, 3, i), ChainVersions.TAKEN);
            x.deliver(0, 1);
        }
        CHECK.due("put of another key", x.put(0, 2, 9), ChainVersions.FULL);
    }

    /** "or its length is 100", all of them settled. */
    private static void lengthOfHundred() {
        Starts.Start hundred = () -> {
            Counted x = new Counted(1);
            Chains.writes(x, 2, 100);
            return x;
        };
        Counted x = new Counted(1);
        Chains.writes(x, 2, 99);
        CHECK.due("with 99", x.put(1, 2, 100), ChainVersions.TAKEN);
        CHECK.due("number", x.number(1), 100);
        CHECK.due("with 100", x.put(1, 2, 101), ChainVersions.FULL);
        CHECK.due("length", x.length(0), 100);
        CHECK.due("look", x.look(0, 2, 0), 100);
        Unchanged.atNodes(CHECK, "with 100", hundred, y -> y.put(1, 2, 101), ChainVersions.FULL);
        Unchanged.due(CHECK, "retry with 100", Starts::hundred, y -> y.retry(1, 0), ChainVersions.FULL);
    }

    /** The two limits are apart: with 99 held, seven open leave room for one, eight leave none. */
    private static void bothLimits() {
        Counted x = new Counted(1);
        Chains.writes(x, 2, 92);
        x.join();
        Chains.adoptAll(x);
        Chains.addOpen(x, 7);
        CHECK.due("99 held", x.length(0), 99);
        CHECK.due("seven open", x.settled(0), 92);
        CHECK.due("put", x.put(1, 0, 1), ChainVersions.TAKEN);
        CHECK.due("100 held, eight open", x.put(2, 0, 1), ChainVersions.FULL);
        Chains.quiet(x);
        CHECK.due("100 held, none open", x.retry(2, 0), ChainVersions.FULL);
        x = new Counted(1);
        Chains.writes(x, 2, 91);
        x.join();
        Chains.adoptAll(x);
        Chains.addOpen(x, 8);
        CHECK.due("99 held, eight open", x.put(1, 0, 1), ChainVersions.FULL);
        CHECK.due("length", x.length(0), 99);
        x.deliver(1, 0);
        CHECK.due("99 held, seven open", x.retry(1, 0), ChainVersions.TAKEN);
        CHECK.due("length", x.length(0), 100);
    }

    /** A length of 100 is enough, however few of them are open: from one that is open to seven. */
    private static void hundredWithSomeOpen() {
        for (int open = 1; open <= 7; open += 3) {
            Counted x = new Counted(1);
            Chains.writes(x, 2, 100 - open);
            x.join();
            Chains.adoptAll(x);
            Chains.addOpen(x, open - 1);
            CHECK.due("99 held, put", x.put(1, 0, 1), ChainVersions.TAKEN);
            CHECK.due("100 held", x.length(0), 100);
            CHECK.due(open + " open", x.settled(0), 100 - open);
            CHECK.due("put", x.put(2, 0, 1), ChainVersions.FULL);
            CHECK.due("length", x.length(0), 100);
            CHECK.due("one update waits", x.waiting(0, 1), 1);
            CHECK.due("held", x.retry(1, 0), ChainVersions.KNOWN);
        }
    }

    /** LOST stands before the others, and what is held before FULL. */
    private static void orderOfAnswers() {
        Unchanged.due(CHECK, "held and eight open", Starts::full, x -> x.retry(0, 0), ChainVersions.KNOWN);
        Unchanged.due(CHECK, "held and a length of 100", Starts::hundred, x -> x.retry(0, 0), ChainVersions.SETTLED);
        Starts.Start fullAndStopped = () -> {
            Counted x = Starts.full();
            x.stop(0);
            return x;
        };
        Unchanged.due(CHECK, "stopped, held", fullAndStopped, x -> x.retry(0, 0), ChainVersions.LOST);
        Unchanged.due(CHECK, "stopped, full", fullAndStopped, x -> x.retry(1, 0), ChainVersions.LOST);
        Unchanged.atNodes(CHECK, "stopped, full", fullAndStopped, x -> x.put(2, 0, 1), ChainVersions.LOST);
        Starts.Start heldButNotHead = () -> {
            Counted x = Starts.allDone();
            Chains.drop(x, 0);
            return x;
        };
        Unchanged.due(CHECK, "held, not head in its view", heldButNotHead, x -> x.retry(0, 0), ChainVersions.LOST);
        Counted x = heldButNotHead.make();
        x.adopt(1);
        CHECK.due("held, head by adoption", x.retry(0, 0), ChainVersions.SETTLED);
    }

    /** "it takes an update with the number length + 1, and the key, value, client and request number of the write". */
    private static void whatIsTaken() {
        Counted x = new Counted(2);
        Chains.writes(x, 1, 2);
        CHECK.due("put", x.put(2, 3, -8), ChainVersions.TAKEN);
        CHECK.due("number", x.version(0, 3, 1), 3);
        CHECK.due("value", x.look(0, 3, 1), -8);
        CHECK.due("no other key", x.version(0, 1, 1), 2);
        CHECK.due("length", x.length(0), 3);
        CHECK.due("it is open", x.settled(0), 2);
        CHECK.due("client and request number", x.retry(2, 0), ChainVersions.KNOWN);
        CHECK.due("one update is sent", x.waiting(0, 1), 1);
        CHECK.due("to the tail", x.deliver(0, 1), ChainVersions.UPDATE);
        CHECK.due("its client's write is done", x.number(2), 3);
        CHECK.due("no other one's", x.number(0), 2);
    }

    /** A write that was refused once bears its own number when it is sent again, and the values of its own put. */
    private static void lostThenTaken() {
        Counted x = new Counted(2);
        x.put(0, 1, 5);
        x.deliver(0, 1);
        x.stop(0);
        CHECK.due("put", x.put(0, 2, 6), ChainVersions.LOST);
        Chains.ticks(x, 3);
        x.adopt(1);
        CHECK.due("retry", x.retry(0, 0), ChainVersions.TAKEN);
        CHECK.due("number", x.number(0), 2);
        CHECK.due("value", x.value(0), 6);
        CHECK.due("key", x.version(1, 2, 0), 2);
        CHECK.due("retry", x.retry(0, 0), ChainVersions.SETTLED);
        CHECK.due("length", x.length(1), 2);
    }

    public static void main(String[] args) {
        headHasStopped();
        notHeadInItsOwnView();
        headInAnOldView();
        knownAndSettled();
        clientAndRequestNumber();
        heldByTheNewHead();
        sevenAndEightOpen();
        openOfAnyKey();
        lengthOfHundred();
        bothLimits();
        hundredWithSomeOpen();
        orderOfAnswers();
        whatIsTaken();
        lostThenTaken();
        CHECK.end();
    }
}
