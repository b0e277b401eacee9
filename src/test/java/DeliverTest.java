/** Promises 8 and 9: deliver and waiting, and what nodes do with messages. */
public final class DeliverTest {
    private static final Check CHECK = new Check("deliver");

    /** "BAD if from or to is not 0 .. 5", "-1 if from or to is not 0 .. 5". */
    private static void noNode() {
        int[] wrong = {-1, 6, Integer.MIN_VALUE, Integer.MAX_VALUE};
        for (int n : wrong) {
            Unchanged.everywhere(CHECK, "deliver from " + n, x -> x.deliver(n, 1), ChainVersions.BAD);
            Unchanged.everywhere(CHECK, "deliver to " + n, x -> x.deliver(0, n), ChainVersions.BAD);
            Unchanged.everywhere(CHECK, "deliver from and to " + n, x -> x.deliver(n, n), ChainVersions.BAD);
            Unchanged.everywhere(CHECK, "waiting from " + n, x -> x.waiting(n, 1), -1);
            Unchanged.everywhere(CHECK, "waiting to " + n, x -> x.waiting(0, n), -1);
            Unchanged.everywhere(CHECK, "waiting from and to " + n, x -> x.waiting(n, n), -1);
        }
    }

    /** "EMPTY if nothing waits there (so also if from is to, or one was not made)", up to the nodes 0 and 5. */
    private static void emptyLinks() {
        for (int n = 0; n < 6; n++) {
            int node = n;
            Unchanged.everywhere(CHECK, "deliver from and to " + n, x -> x.deliver(node, node), ChainVersions.EMPTY);
            Unchanged.everywhere(CHECK, "waiting from and to " + n, x -> x.waiting(node, node), 0);
        }
        int[][] notMade = {{0, 3}, {3, 0}, {0, 5}, {5, 0}, {3, 4}, {5, 4}};
        for (int[] link : notMade) {
            String call = "(" + link[0] + ", " + link[1] + ")";
            Unchanged.due(CHECK, "deliver" + call, Starts::underWay, x -> x.deliver(link[0], link[1]),
                ChainVersions.EMPTY);
            Unchanged.due(CHECK, "waiting" + call, Starts::underWay, x -> x.waiting(link[0], link[1]), 0);
        }
        Unchanged.due(CHECK, "deliver the other way", Starts::underWay, x -> x.deliver(1, 0), ChainVersions.EMPTY);
        Unchanged.due(CHECK, "deliver past a node", Starts::underWay, x -> x.deliver(0, 2), ChainVersions.EMPTY);
        Unchanged.due(CHECK, "deliver to a stopped node", Starts::changing, x -> x.deliver(1, 0), ChainVersions.EMPTY);
        CHECK.due("deliver where one waits", Starts.underWay().deliver(0, 1), ChainVersions.UPDATE);
        Counted x = Starts.six();
        CHECK.due("waiting(5, 4)", x.waiting(5, 4), 1);
        CHECK.due("deliver(5, 4)", x.deliver(5, 4), ChainVersions.ACK);
        CHECK.due("waiting(5, 4)", x.waiting(5, 4), 0);
        CHECK.due("deliver(5, 4)", x.deliver(5, 4), ChainVersions.EMPTY);
    }

    /** "BUSY, and the message stays, if it bears a higher epoch than that of the node": of an equal one it is taken. */
    private static void higherEpochIsBusy() {
        Starts.Start headIsAhead = () -> {
            Counted x = new Counted(3);
            x.put(0, 1, 5);
            x.deliver(0, 1);
            x.join();
            x.adopt(0);
            return x;
        };
        Unchanged.due(CHECK, "copy of a higher epoch", headIsAhead, x -> x.deliver(0, 1), ChainVersions.BUSY);
        Counted x = headIsAhead.make();
        CHECK.due("busy", x.deliver(0, 1), ChainVersions.BUSY);
        CHECK.due("it stays", x.waiting(0, 1), 1);
        CHECK.due("adopt", x.adopt(1), true);
        CHECK.due("of an equal epoch", x.deliver(0, 1), ChainVersions.COPY);
        CHECK.due("it is off the link", x.waiting(0, 1), 0);
        Starts.Start tailIsAhead = () -> {
            Counted y = headIsAhead.make();
            y.deliver(1, 2);
            y.deliver(2, 1);
            y.adopt(2);
            return y;
        };
        Unchanged.due(CHECK, "ack of a higher epoch", tailIsAhead, y -> y.deliver(2, 1), ChainVersions.BUSY);
        Unchanged.due(CHECK, "query of a higher epoch", DeliverTest::askerIsAhead, y -> y.deliver(0, 3),
            ChainVersions.BUSY);
        Counted z = askerIsAhead();
        CHECK.due("adopt", z.adopt(3), true);
        CHECK.due("query of an equal epoch", z.deliver(0, 3), ChainVersions.QUERY);
    }

    /** Four ready nodes; 1 is dropped, which node 0 knows and the tail, whom it asks, does not. */
    private static Counted askerIsAhead() {
        Counted x = new Counted(3);
        x.join();
        for (int node = 0; node < 3; node++) {
            x.adopt(node);
        }
        x.deliver(2, 3);
        x.put(0, 1, 5);
        Chains.drop(x, 1);
        x.adopt(0);
        x.get(1, 0, 1);
        return x;
    }

    /** A message of the node's own epoch may wait before one of a higher epoch: each is looked at when it is first. */
    private static void firstOfTheLinkIsLookedAt() {
        Counted x = new Counted(2);
        x.put(0, 1, 5);
        x.join();
        x.adopt(0);
        CHECK.due("an update of epoch 1 and a copy of epoch 2", x.waiting(0, 1), 2);
        CHECK.due("own epoch", x.deliver(0, 1), ChainVersions.UPDATE);
        CHECK.due("higher epoch", x.deliver(0, 1), ChainVersions.BUSY);
        CHECK.due("it stays", x.waiting(0, 1), 1);
    }

    /** "or if that node is not ready and it is not a COPY". */
    private static void notReadyIsBusy() {
        Starts.Start asked = () -> {
            Counted x = new Counted(2);
            x.join();
            x.adopt(0);
            x.adopt(1);
            x.put(0, 1, 5);
            x.get(1, 0, 1);
            return x;
        };
        CHECK.due("the query bears the epoch of the new node", asked.make().epoch(0), asked.make().epoch(2));
        Unchanged.due(CHECK, "query to a node that is not ready", asked, x -> x.deliver(0, 2), ChainVersions.BUSY);
        Counted x = asked.make();
        CHECK.due("a copy is taken", x.deliver(1, 2), ChainVersions.COPY);
        CHECK.due("a query to a node that is ready", x.deliver(0, 2), ChainVersions.QUERY);
        x = new Counted(1);
        x.join();
        x.join();
        x.adopt(0);
        CHECK.due("a copy of a higher epoch", x.deliver(0, 1), ChainVersions.BUSY);
        CHECK.due("not ready by that", x.length(1), -1);
        CHECK.due("it stays", x.waiting(0, 1), 1);
    }

    private static void orderOfSending() {
        Counted x = new Counted(2);
        x.put(0, 0, 1);
        x.put(1, 0, 2);
        x.get(2, 0, 0);
        CHECK.due("waiting", x.waiting(0, 1), 3);
        CHECK.due("other direction", x.waiting(1, 0), 0);
        CHECK.due("first", x.deliver(0, 1), ChainVersions.UPDATE);
        CHECK.due("value", x.look(1, 0, 0), 1);
        CHECK.due("waiting", x.waiting(0, 1), 2);
        CHECK.due("second", x.deliver(0, 1), ChainVersions.UPDATE);
        CHECK.due("value", x.look(1, 0, 0), 2);
        CHECK.due("third", x.deliver(0, 1), ChainVersions.QUERY);
        CHECK.due("no more", x.deliver(0, 1), ChainVersions.EMPTY);
        CHECK.due("back", x.waiting(1, 0), 3);
        CHECK.due("back", x.deliver(1, 0), ChainVersions.ACK);
        CHECK.due("settled", x.settled(0), 1);
        CHECK.due("back", x.deliver(1, 0), ChainVersions.ACK);
        CHECK.due("settled", x.settled(0), 2);
        CHECK.due("back", x.deliver(1, 0), ChainVersions.ANSWER);
        CHECK.due("read", x.number(2), 2);
    }

    /** "ACK n: if n is greater than its settled number": an equal one changes nothing and is not sent on. */
    private static void ackOfWhatIsSettled() {
        Starts.Start equal = () -> {
            Counted x = new Counted(3);
            x.put(0, 0, 1);
            Chains.along(x, 0, 1, 2, 1, 0);
            x.join();
            x.adopt(2);
            x.adopt(1);
            x.adopt(0);
            x.deliver(1, 0);
            return x;
        };
        Counted x = equal.make();
        CHECK.due("settled by it before", x.settled(1), 1);
        CHECK.due("ack 1 again", x.deliver(2, 1), ChainVersions.ACK);
        CHECK.due("settled", x.settled(1), 1);
        CHECK.due("not sent on", x.waiting(1, 0), 0);
        x = new Counted(3);
        x.put(0, 0, 1);
        Chains.along(x, 0, 1, 2);
        CHECK.due("ack 1 where 0 is settled", x.deliver(2, 1), ChainVersions.ACK);
        CHECK.due("settled", x.settled(1), 1);
        CHECK.due("sent on", x.waiting(1, 0), 1);
        CHECK.due("length stays", x.length(1), 1);
    }

    /** ".. and it sends ACK n to its predecessor, if it has one": the head sends nothing. */
    private static void ackAtTheHead() {
        Counted x = new Counted(3);
        x.put(0, 0, 1);
        x.put(1, 0, 2);
        Chains.along(x, 0, 1, 2, 1, 0);
        CHECK.due("settled at the head", x.settled(0), 1);
        CHECK.due("the other update waits", x.waiting(0, 1), 1);
        CHECK.due("nothing more to node 1", x.deliver(0, 1), ChainVersions.UPDATE);
        CHECK.due("nothing more to node 1", x.deliver(0, 1), ChainVersions.EMPTY);
        CHECK.due("nothing to node 2", x.waiting(0, 2), 0);
        CHECK.due("the ack does not settle what is after it", x.length(0) - x.settled(0), 1);
    }

    /** An ACK ends no write: that is the tail's business, and was done before. */
    private static void ackSettlesMany() {
        Counted x = new Counted(3);
        x.put(0, 0, 1);
        x.put(1, 0, 2);
        x.deliver(0, 1);
        x.deliver(0, 1);
        Chains.drop(x, 2);
        x.adopt(1);
        x.adopt(0);
        CHECK.due("one ack for both", x.deliver(1, 0), ChainVersions.ACK);
        CHECK.due("settled", x.settled(0), 2);
        CHECK.due("no ack more", x.deliver(1, 0), ChainVersions.EMPTY);
        CHECK.due("the head's own copy has nothing new", x.deliver(0, 1), ChainVersions.COPY);
        CHECK.due("so no ack", x.waiting(1, 0), 0);
    }

    private static void ackGoesUpOnceEach() {
        Counted x = new Counted(3);
        x.put(0, 0, 1);
        Chains.along(x, 0, 1, 2);
        CHECK.due("ack", x.waiting(2, 1), 1);
        CHECK.due("ack", x.deliver(2, 1), ChainVersions.ACK);
        CHECK.due("settled 1", x.settled(1), 1);
        CHECK.due("settled 0", x.settled(0), 0);
        CHECK.due("ack goes on", x.waiting(1, 0), 1);
        x.join();
        x.adopt(2);
        CHECK.due("an ack of a higher epoch waits", x.deliver(2, 1), ChainVersions.BUSY);
        CHECK.due("it is still there", x.waiting(2, 1), 1);
        x.adopt(1);
        CHECK.due("ack by adoption", x.waiting(1, 0), 2);
        CHECK.due("old news", x.deliver(2, 1), ChainVersions.ACK);
        CHECK.due("old news is not sent on", x.waiting(1, 0), 2);
        CHECK.due("ack of epoch 1", x.deliver(1, 0), ChainVersions.ACK);
        CHECK.due("ack of epoch 2", x.deliver(1, 0), ChainVersions.BUSY);
    }

    /** The tail answers with a version that the asking node has as an open one. */
    private static void answerOfAnOpenVersion() {
        Counted x = new Counted(3);
        x.put(0, 1, 5);
        x.put(1, 1, 6);
        Chains.along(x, 0, 1, 2);
        x.deliver(0, 1);
        CHECK.due("get", x.get(2, 0, 1), ChainVersions.ASKED);
        CHECK.due("query", x.deliver(0, 2), ChainVersions.QUERY);
        CHECK.due("answer", x.deliver(2, 0), ChainVersions.ANSWER);
        CHECK.due("first open version", x.number(2), 1);
        CHECK.due("its value", x.value(2), 5);
        CHECK.due("it is open there", x.settled(0), 0);
    }

    /** The answer is older than the clean version of the asking node, which is told then. */
    private static void answerOfAnOldVersion() {
        Counted x = new Counted(3);
        x.put(0, 1, 5);
        CHECK.due("get", x.get(2, 0, 1), ChainVersions.ASKED);
        CHECK.due("query", x.deliver(0, 2), ChainVersions.QUERY);
        Chains.along(x, 0, 1, 2, 1, 0);
        CHECK.due("settled meanwhile", x.settled(0), 1);
        CHECK.due("answer", x.deliver(2, 0), ChainVersions.ANSWER);
        CHECK.due("clean version", x.number(2), 1);
        CHECK.due("its value", x.value(2), 5);
    }

    /** The same, but the answer names a settled update that a later one has hidden meanwhile. */
    private static void answerOfAHiddenVersion() {
        Counted x = new Counted(3);
        x.put(0, 1, 5);
        Chains.quiet(x);
        x.put(0, 1, 6);
        CHECK.due("get", x.get(2, 0, 1), ChainVersions.ASKED);
        CHECK.due("query", x.deliver(0, 2), ChainVersions.QUERY);
        Chains.along(x, 0, 1, 2, 1, 0);
        CHECK.due("settled meanwhile", x.settled(0), 2);
        CHECK.due("answer", x.deliver(2, 0), ChainVersions.ANSWER);
        CHECK.due("clean version", x.number(2), 2);
        CHECK.due("its value", x.value(2), 6);
    }

    /** The version told is the key's, not any update with that number. */
    private static void answerOfAnotherKey() {
        Counted x = new Counted(2);
        x.put(0, 1, 5);
        x.put(1, 2, 6);
        CHECK.due("get", x.get(2, 0, 2), ChainVersions.ASKED);
        x.deliver(0, 1);
        x.deliver(0, 1);
        x.deliver(0, 1);
        x.deliver(1, 0);
        x.deliver(1, 0);
        CHECK.due("answer", x.deliver(1, 0), ChainVersions.ANSWER);
        CHECK.due("number", x.number(2), 2);
        CHECK.due("value", x.value(2), 6);
    }

    /** "(if there is none: number 0, value 0)": the tail has no settled update of the key, nor has the asking node. */
    private static void answerOfNoVersion() {
        Counted x = new Counted(3);
        x.put(0, 1, 5);
        CHECK.due("get", x.get(2, 0, 1), ChainVersions.ASKED);
        CHECK.due("query", x.deliver(0, 2), ChainVersions.QUERY);
        CHECK.due("one answer", x.waiting(2, 0), 1);
        CHECK.due("to the asking node alone", x.waiting(2, 1), 0);
        CHECK.due("answer", x.deliver(2, 0), ChainVersions.ANSWER);
        CHECK.due("status", x.status(2), 4);
        CHECK.due("number", x.number(2), 0);
        CHECK.due("value", x.value(2), 0);
        CHECK.due("the update is open still", x.version(0, 1, 1), 1);
    }

    /** The answer names the version that is clean at the asking node too. */
    private static void answerOfTheCleanVersion() {
        Counted x = new Counted(3);
        Chains.writes(x, 1, 2);
        x.put(0, 1, 30);
        CHECK.due("get", x.get(2, 0, 1), ChainVersions.ASKED);
        Chains.along(x, 0, 2, 0);
        CHECK.due("number", x.number(2), 2);
        CHECK.due("value", x.value(2), 2);
        CHECK.due("update 3 is not settled by that", x.settled(0), 2);
    }

    /** The last open version of eight, the first having become the clean one meanwhile. */
    private static void answerOfTheLastOfMany() {
        Counted x = new Counted(2);
        for (int i = 1; i <= 8; i++) {
            x.put(0, 1, 10 * i);
            x.deliver(0, 1);
        }
        CHECK.due("get", x.get(2, 0, 1), ChainVersions.ASKED);
        CHECK.due("query", x.deliver(0, 1), ChainVersions.QUERY);
        for (int i = 1; i <= 8; i++) {
            CHECK.due("ack", x.deliver(1, 0), ChainVersions.ACK);
        }
        CHECK.due("answer", x.deliver(1, 0), ChainVersions.ANSWER);
        CHECK.due("number", x.number(2), 8);
        CHECK.due("value", x.value(2), 80);
    }

    /** Two reads wait at one node: each answer ends the one for which it was asked. */
    private static void answersOfTwoReads() {
        Counted x = new Counted(3);
        x.put(0, 1, 5);
        CHECK.due("client 2 first", x.get(2, 0, 1), ChainVersions.ASKED);
        CHECK.due("then client 1", x.get(1, 0, 1), ChainVersions.ASKED);
        x.deliver(0, 2);
        x.deliver(0, 2);
        CHECK.due("first answer", x.deliver(2, 0), ChainVersions.ANSWER);
        CHECK.due("client 2 is done", x.status(2), 4);
        CHECK.due("client 1 is not", x.status(1), 3);
        CHECK.due("the write is not", x.status(0), 1);
        CHECK.due("second answer", x.deliver(2, 0), ChainVersions.ANSWER);
        CHECK.due("client 1 is done", x.status(1), 4);
    }

    private static void notReadyTakesCopiesAlone() {
        Counted x = new Counted(1);
        Chains.writes(x, 0, 3);
        x.join();
        x.put(1, 1, 40);
        x.adopt(0);
        x.put(2, 1, 50);
        x.get(1, 0, 1);
        CHECK.due("copy, update, query", x.waiting(0, 1), 3);
        CHECK.due("copy", x.deliver(0, 1), ChainVersions.COPY);
        CHECK.due("length as sent", x.length(1), 4);
        CHECK.due("settled", x.settled(1), 4);
        CHECK.due("look", x.look(1, 1, 0), 40);
        CHECK.due("ack", x.waiting(1, 0), 1);
        CHECK.due("update", x.deliver(0, 1), ChainVersions.UPDATE);
        CHECK.due("query", x.deliver(0, 1), ChainVersions.QUERY);
        CHECK.due("old news", x.deliver(1, 0), ChainVersions.ACK);
        CHECK.due("news", x.deliver(1, 0), ChainVersions.ACK);
        CHECK.due("settled", x.settled(0), 5);
        CHECK.due("answer", x.deliver(1, 0), ChainVersions.ANSWER);
        CHECK.due("read", x.value(1), 50);
    }

    private static void notReadyIsBusyWithAnUpdate() {
        Counted x = new Counted(1);
        x.join();
        x.join();
        x.adopt(0);
        x.put(0, 0, 1);
        x.get(1, 0, 0);
        CHECK.due("query to the new tail", x.deliver(0, 2), ChainVersions.BUSY);
        CHECK.due("it stays", x.waiting(0, 2), 1);
        CHECK.due("copy of a higher epoch", x.deliver(0, 1), ChainVersions.BUSY);
        x.adopt(1);
        CHECK.due("adopted, not ready", x.length(1), -1);
        CHECK.due("no ack of a node that is not ready", x.waiting(1, 0), 0);
        CHECK.due("copy", x.deliver(0, 1), ChainVersions.COPY);
        CHECK.due("ready", x.length(1), 0);
        CHECK.due("the copy goes on", x.waiting(1, 2), 1);
        CHECK.due("ack", x.waiting(1, 0), 1);
        CHECK.due("copy", x.deliver(1, 2), ChainVersions.COPY);
        CHECK.due("query", x.deliver(0, 2), ChainVersions.QUERY);
    }

    /** A ready node takes what is new to it of a copy, and sends each on. */
    private static void copyToAReadyNode() {
        Counted x = new Counted(3);
        x.put(0, 0, 1);
        x.deliver(0, 1);
        x.put(1, 1, 2);
        x.put(2, 2, 3);
        x.join();
        x.adopt(1);
        CHECK.due("updates of epoch 1 are lost", x.waiting(0, 1), 0);
        CHECK.due("an update of epoch 1 and a copy", x.waiting(1, 2), 2);
        CHECK.due("update", x.deliver(1, 2), ChainVersions.UPDATE);
        CHECK.due("done at the old tail", x.number(0), 1);
        CHECK.due("the old tail's ack is lost", x.waiting(2, 1), 0);
        x.adopt(0);
        CHECK.due("copy", x.deliver(0, 1), ChainVersions.COPY);
        CHECK.due("length", x.length(1), 3);
        CHECK.due("a copy and two updates", x.waiting(1, 2), 3);
        x.adopt(2);
        CHECK.due("copy", x.deliver(1, 2), ChainVersions.COPY);
        CHECK.due("nothing new", x.length(2), 1);
        CHECK.due("update", x.deliver(1, 2), ChainVersions.UPDATE);
        CHECK.due("update", x.deliver(1, 2), ChainVersions.UPDATE);
        CHECK.due("to the new node", x.waiting(2, 3), 3);
        Chains.quiet(x);
        CHECK.due("settled 0", x.settled(0), 3);
        CHECK.due("settled 3", x.settled(3), 3);
        CHECK.due("write done", x.number(2), 3);
    }

    /** "whose numbers are greater than the node's own length": none, one and two of the copy's three. */
    private static void newPartOfACopy() {
        for (int known = 1; known <= 3; known++) {
            Counted x = new Counted(2);
            x.put(0, 0, 1);
            x.put(1, 1, 2);
            x.put(2, 2, 3);
            for (int i = 0; i < known; i++) {
                x.deliver(0, 1);
            }
            x.join();
            x.adopt(0);
            x.adopt(1);
            CHECK.due("known before", x.length(1), known);
            CHECK.due("its copy to the new node", x.waiting(1, 2), 1);
            CHECK.due("copy", x.deliver(0, 1), ChainVersions.COPY);
            CHECK.due("length", x.length(1), 3);
            CHECK.due("settled is what it was", x.settled(1), known);
            CHECK.due("an update sent on for each that is new", x.waiting(1, 2), 4 - known);
            CHECK.due("in order", x.look(1, 2, 1), 3);
            CHECK.due("copy", x.deliver(1, 2), ChainVersions.COPY);
            CHECK.due("as it was when it was sent", x.length(2), known);
            for (int n = known + 1; n <= 3; n++) {
                CHECK.due("update", x.deliver(1, 2), ChainVersions.UPDATE);
                CHECK.due("number", x.length(2), n);
                CHECK.due("its write is done", x.number(n - 1), n);
            }
        }
    }

    /** A tail settles each update of a copy as it takes it, and sends an ACK for each. */
    private static void copyToATail() {
        Counted x = new Counted(3);
        x.put(0, 0, 1);
        x.put(1, 1, 2);
        x.put(2, 2, 3);
        Chains.drop(x, 1);
        x.adopt(0);
        CHECK.due("adopt", x.adopt(2), true);
        CHECK.due("ack of the adoption", x.waiting(2, 0), 1);
        CHECK.due("copy", x.deliver(0, 2), ChainVersions.COPY);
        CHECK.due("settled", x.settled(2), 3);
        CHECK.due("an ack for each", x.waiting(2, 0), 4);
        int[] settled = {0, 1, 2, 3};
        for (int n : settled) {
            CHECK.due("ack", x.deliver(2, 0), ChainVersions.ACK);
            CHECK.due("settled at the head", x.settled(0), n);
        }
        for (int c = 0; c < 3; c++) {
            CHECK.due("write done", x.number(c), c + 1);
        }
    }

    /** A copy of nothing makes a node ready too. */
    private static void emptyCopy() {
        Counted x = new Counted(1);
        x.join();
        x.adopt(0);
        CHECK.due("not ready", x.length(1), -1);
        CHECK.due("copy", x.deliver(0, 1), ChainVersions.COPY);
        CHECK.due("ready", x.length(1), 0);
        CHECK.due("settled", x.settled(1), 0);
        CHECK.due("an ack of 0", x.deliver(1, 0), ChainVersions.ACK);
        CHECK.due("settled", x.settled(0), 0);
    }

    /** A copy of a hundred to a node that is not ready, and what a full log answers there. */
    private static void copyOfAHundred() {
        Counted x = Starts.hundred();
        x.join();
        x.adopt(0);
        CHECK.due("copy", x.deliver(0, 1), ChainVersions.COPY);
        CHECK.due("length", x.length(1), 100);
        CHECK.due("settled", x.settled(1), 100);
        CHECK.due("look", x.look(1, 2, 0), 100);
        CHECK.due("stop", x.stop(0), true);
        Chains.ticks(x, 3);
        x.adopt(1);
        CHECK.due("the new head has a length of 100", x.retry(1, 0), ChainVersions.FULL);
        CHECK.due("and knows the last of them", x.retry(0, 0), ChainVersions.SETTLED);
    }

    /** What a sender takes after it sent a copy is not in that copy. */
    private static void copyIsOfItsTime() {
        Counted x = new Counted(2);
        x.put(0, 0, 1);
        x.stop(1);
        x.join();
        Chains.ticks(x, 3);
        x.adopt(0);
        x.put(1, 0, 2);
        x.put(2, 0, 3);
        x.adopt(2);
        CHECK.due("copy", x.deliver(0, 2), ChainVersions.COPY);
        CHECK.due("length", x.length(2), 1);
        CHECK.due("later write", x.status(1), 1);
        CHECK.due("update", x.deliver(0, 2), ChainVersions.UPDATE);
        CHECK.due("length", x.length(2), 2);
        CHECK.due("later write", x.number(1), 2);
    }

    public static void main(String[] args) {
        noNode();
        emptyLinks();
        higherEpochIsBusy();
        firstOfTheLinkIsLookedAt();
        notReadyIsBusy();
        orderOfSending();
        ackOfWhatIsSettled();
        ackAtTheHead();
        ackSettlesMany();
        ackGoesUpOnceEach();
        answerOfNoVersion();
        answerOfTheCleanVersion();
        answerOfTheLastOfMany();
        answersOfTwoReads();
        answerOfAnOpenVersion();
        answerOfAnOldVersion();
        answerOfAHiddenVersion();
        answerOfAnotherKey();
        notReadyTakesCopiesAlone();
        notReadyIsBusyWithAnUpdate();
        copyToAReadyNode();
        newPartOfACopy();
        copyToATail();
        emptyCopy();
        copyOfAHundred();
        copyIsOfItsTime();
        CHECK.end();
    }
}
