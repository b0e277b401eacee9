/** Promises 10 to 15: stop, join, tick, adopt, member, epoch. */
public final class MembershipTest {
    private static final Check CHECK = new Check("membership");

    private static int asInt(boolean answer) {
        return answer ? 1 : 0;
    }

    /** "False if there is no living node of that number": no such number, not made, or stopped already. */
    private static void stopOfNoNode() {
        int[] wrong = {-1, 6, Integer.MIN_VALUE, Integer.MAX_VALUE};
        for (int node : wrong) {
            Unchanged.everywhere(CHECK, "stop " + node, x -> asInt(x.stop(node)), 0);
        }
        Unchanged.due(CHECK, "stop of one not made", Starts::underWay, x -> asInt(x.stop(3)), 0);
        Unchanged.due(CHECK, "stop of one not made", Starts::underWay, x -> asInt(x.stop(5)), 0);
        Unchanged.due(CHECK, "stop of one that has stopped", Starts::changing, x -> asInt(x.stop(0)), 0);
        CHECK.due("stop of the last one made", Starts.underWay().stop(2), true);
        CHECK.due("stop of node 0", Starts.underWay().stop(0), true);
        CHECK.due("stop of node 5", Starts.six().stop(5), true);
    }

    /** A second stop of a node does not make its silence begin anew. */
    private static void stopAgainDoesNotCount() {
        Counted x = new Counted(2);
        x.stop(1);
        Chains.ticks(x, 2);
        CHECK.due("stop again", x.stop(1), false);
        CHECK.due("third tick", x.tick(), 2);
    }

    /** "or no other node is living and ready": one that lives and is not ready is none, nor is one that has stopped. */
    private static void stopOfTheLastReadyNode() {
        Unchanged.due(CHECK, "stop of the only node", Starts::alone, x -> asInt(x.stop(0)), 0);
        Unchanged.due(CHECK, "stop of the only node", Starts::hundred, x -> asInt(x.stop(0)), 0);
        Starts.Start joined = () -> {
            Counted x = new Counted(1);
            x.put(0, 1, 5);
            x.join();
            x.adopt(0);
            x.put(0, 1, 6);
            return x;
        };
        Unchanged.due(CHECK, "the other one is not ready", joined, x -> asInt(x.stop(0)), 0);
        Counted x = joined.make();
        CHECK.due("copy", x.deliver(0, 1), ChainVersions.COPY);
        CHECK.due("the other one is ready", x.stop(0), true);
        CHECK.due("now it is the only one", x.stop(1), false);
        CHECK.due("one that is not ready may be stopped", joined.make().stop(1), true);
        Starts.Start oneStopped = () -> {
            Counted y = Starts.allDone();
            y.stop(0);
            return y;
        };
        Unchanged.due(CHECK, "the other one has stopped", oneStopped, y -> asInt(y.stop(1)), 0);
        Unchanged.due(CHECK, "what the other one sent still waits", Starts::leftAlone, y -> asInt(y.stop(1)), 0);
        CHECK.due("the other one has not", Starts.allDone().stop(1), true);
    }

    /** "A node is LIVING .. until it is stopped; it never lives again." */
    private static void stoppedForGood() {
        Counted x = new Counted(3);
        x.stop(1);
        CHECK.due("epoch", x.epoch(1), -1);
        CHECK.due("it is a member still", x.member(1), 1);
        CHECK.due("join gives another number", x.join(), 3);
        CHECK.due("adopt", x.adopt(1), false);
        Chains.ticks(x, 3);
        CHECK.due("dropped: epoch", x.epoch(1), -1);
        CHECK.due("dropped: adopt", x.adopt(1), false);
        CHECK.due("dropped: stop", x.stop(1), false);
        CHECK.due("dropped: length", x.length(1), -1);
        CHECK.due("dropped: get", x.get(0, 1, 0), ChainVersions.LOST);
        CHECK.due("join gives another number", x.join(), 4);
        CHECK.due("still stopped", x.epoch(1), -1);
    }

    /** "-1 if there are six nodes", stopped and dropped ones too; with five it makes the sixth. */
    private static void sixNodes() {
        Unchanged.due(CHECK, "join with six", Starts::six, x -> x.join(), -1);
        Starts.Start someStopped = () -> {
            Counted x = Starts.six();
            x.stop(1);
            x.stop(3);
            Chains.ticks(x, 3);
            return x;
        };
        Unchanged.due(CHECK, "join with four living of six", someStopped, x -> x.join(), -1);
        for (int first = 1; first <= 3; first++) {
            Counted x = new Counted(first);
            for (int node = first; node < 6; node++) {
                CHECK.due("join", x.join(), node);
                CHECK.due("epoch", x.epoch(node), node - first + 2);
                CHECK.due("last member", x.member(node), node);
                CHECK.due("no more", x.member(node + 1), -1);
            }
            CHECK.due("join", x.join(), -1);
            CHECK.due("the epoch stays", x.tick(), 7 - first);
        }
    }

    /** A new node is living and not ready, and its view is the new configuration; no other node's view is by that. */
    private static void joinedNode() {
        Counted x = new Counted(2);
        x.put(0, 1, 5);
        CHECK.due("join", x.join(), 2);
        CHECK.due("epoch", x.epoch(2), 2);
        CHECK.due("length", x.length(2), -1);
        CHECK.due("settled", x.settled(2), -1);
        CHECK.due("version", x.version(2, 0, 0), -1);
        CHECK.due("look", x.look(2, 0, 0), 0);
        CHECK.due("get", x.get(1, 2, 0), ChainVersions.LOST);
        CHECK.due("adopt", x.adopt(2), false);
        CHECK.due("epoch 0", x.epoch(0), 1);
        CHECK.due("epoch 1", x.epoch(1), 1);
        CHECK.due("nothing is sent to it", x.waiting(0, 2) + x.waiting(1, 2), 0);
        CHECK.due("what waits is not touched", x.waiting(0, 1), 1);
        CHECK.due("newest epoch", x.tick(), 2);
    }

    private static void stopLosesWhatWaitsForTheNode() {
        Counted x = new Counted(3);
        x.put(0, 0, 1);
        x.put(1, 0, 2);
        x.deliver(0, 1);
        x.deliver(1, 2);
        x.get(2, 1, 0);
        CHECK.due("before: 0 to 1", x.waiting(0, 1), 1);
        CHECK.due("before: 2 to 1", x.waiting(2, 1), 1);
        CHECK.due("before: 1 to 2", x.waiting(1, 2), 1);
        CHECK.due("stop", x.stop(1), true);
        CHECK.due("after: 0 to 1", x.waiting(0, 1), 0);
        CHECK.due("after: 2 to 1", x.waiting(2, 1), 0);
        CHECK.due("after: 1 to 2", x.waiting(1, 2), 1);
        CHECK.due("nothing comes to it", x.deliver(0, 1), ChainVersions.EMPTY);
        x.put(0, 3, 3);
        CHECK.due("what is sent to it is lost", x.waiting(0, 1), 0);
        CHECK.due("what it sent arrives", x.deliver(1, 2), ChainVersions.QUERY);
        CHECK.due("the answer is lost", x.waiting(2, 1), 0);
        CHECK.due("length", x.length(1), -1);
        CHECK.due("settled", x.settled(1), -1);
        CHECK.due("version", x.version(1, 0, 0), -1);
        CHECK.due("look", x.look(1, 0, 1), 0);
        CHECK.due("adopt", x.adopt(1), false);
        CHECK.due("it is a member still", x.member(1), 1);
    }

    private static void joinSix() {
        Counted x = new Counted(3);
        CHECK.due("stop", x.stop(2), true);
        for (int node = 3; node < 6; node++) {
            CHECK.due("join", x.join(), node);
            CHECK.due("epoch of the new one", x.epoch(node), node - 1);
            CHECK.due("not ready", x.length(node), -1);
            CHECK.due("not ready", x.settled(node), -1);
            CHECK.due("not ready", x.version(node, 0, 0), -1);
            CHECK.due("its view is the newest", x.adopt(node), false);
            CHECK.due("last member", x.member(node), node);
            CHECK.due("no more members", x.member(node + 1), -1);
        }
        CHECK.due("a stopped member stays", x.member(2), 2);
        CHECK.due("six nodes, one stopped", x.join(), -1);
        CHECK.due("no new epoch", x.tick(), 4);
        CHECK.due("others keep their views", x.epoch(0), 1);
        CHECK.due("tick", x.tick(), 4);
        CHECK.due("tick", x.tick(), 5);
        CHECK.due("still six nodes made", x.join(), -1);
        CHECK.due("member 2", x.member(2), 3);
        CHECK.due("member 4", x.member(4), 5);
        CHECK.due("member 5", x.member(5), -1);
        CHECK.due("an older joined one", x.epoch(3), 2);
        CHECK.due("adopts", x.adopt(3), true);
        CHECK.due("adopted", x.epoch(3), 5);
        CHECK.due("not ready by that", x.length(3), -1);
    }

    /** "silent for three ticks or more": two are not enough, and those before the stop do not count. */
    private static void twoAndThreeTicks() {
        for (int before = 0; before <= 3; before++) {
            Counted x = new Counted(3);
            Chains.ticks(x, before);
            x.stop(1);
            CHECK.due("first tick", x.tick(), 1);
            CHECK.due("second tick", x.tick(), 1);
            CHECK.due("still a member", x.member(1), 1);
            CHECK.due("third tick", x.tick(), 2);
            CHECK.due("a member no more", x.member(1), 2);
            CHECK.due("two members", x.member(2), -1);
            CHECK.due("fourth tick", x.tick(), 2);
        }
    }

    /** A tick of a chain whose members all live makes no configuration, and changes nothing else. */
    private static void tickOfTheLiving() {
        Unchanged.due(CHECK, "tick", Starts::underWay, x -> x.tick(), 1);
        Unchanged.due(CHECK, "tick", Starts::allDone, x -> x.tick(), 1);
        Unchanged.due(CHECK, "tick", Starts::six, x -> x.tick(), 6);
    }

    /** A tick that drops a node changes no node's view, and loses no message. */
    private static void tickChangesNoView() {
        Counted x = Starts.underWay();
        x.stop(0);
        Chains.ticks(x, 3);
        CHECK.due("member 0", x.member(0), 1);
        CHECK.due("epoch 1", x.epoch(1), 1);
        CHECK.due("epoch 2", x.epoch(2), 1);
        CHECK.due("from 0 to 1", x.waiting(0, 1), 1);
        CHECK.due("from 1 to 2", x.waiting(1, 2), 2);
        CHECK.due("length", x.length(1), 1);
        CHECK.due("the read waits", x.status(2), 3);
    }

    /** A node that joined and never was ready is dropped like any other. */
    private static void dropOfANodeNotReady() {
        Counted x = new Counted(2);
        x.join();
        CHECK.due("stop", x.stop(2), true);
        CHECK.due("first tick", x.tick(), 2);
        CHECK.due("second tick", x.tick(), 2);
        CHECK.due("member", x.member(2), 2);
        CHECK.due("third tick", x.tick(), 3);
        CHECK.due("member", x.member(2), -1);
        CHECK.due("the others", x.member(1), 1);
    }

    /** Five of six dropped at once: one new configuration with the one that lives. */
    private static void allButOneDropped() {
        Counted x = Starts.six();
        for (int node = 0; node < 5; node++) {
            CHECK.due("stop", x.stop(node), true);
        }
        CHECK.due("the last one", x.stop(5), false);
        CHECK.due("first tick", x.tick(), 6);
        CHECK.due("second tick", x.tick(), 6);
        CHECK.due("third tick", x.tick(), 7);
        CHECK.due("member 0", x.member(0), 5);
        CHECK.due("member 1", x.member(1), -1);
        CHECK.due("adopt", x.adopt(5), true);
        CHECK.due("head and tail", x.put(1, 3, 71), ChainVersions.TAKEN);
        CHECK.due("number", x.number(1), 2);
    }

    private static void ticksCountFromEachStop() {
        Counted x = new Counted(3);
        CHECK.due("tick", x.tick(), 1);
        Chains.ticks(x, 5);
        x.stop(1);
        CHECK.due("first", x.tick(), 1);
        x.stop(2);
        CHECK.due("second", x.tick(), 1);
        CHECK.due("third", x.tick(), 2);
        CHECK.due("one is out", x.member(1), 2);
        CHECK.due("one is out", x.member(2), -1);
        CHECK.due("third of the other", x.tick(), 3);
        CHECK.due("both are out", x.member(0), 0);
        CHECK.due("both are out", x.member(1), -1);
        CHECK.due("no more", x.tick(), 3);
        CHECK.due("no more", x.tick(), 3);
    }

    private static void bothOutAtOnce() {
        Counted x = new Counted(3);
        x.stop(0);
        x.stop(1);
        Chains.ticks(x, 2);
        CHECK.due("one epoch for both", x.tick(), 2);
        CHECK.due("member", x.member(0), 2);
        CHECK.due("member", x.member(1), -1);
    }

    private static void joinBetweenTicks() {
        Counted x = new Counted(2);
        x.stop(0);
        Chains.ticks(x, 2);
        CHECK.due("join", x.join(), 2);
        CHECK.due("the stopped one is a member", x.member(0), 0);
        CHECK.due("tick", x.tick(), 3);
        CHECK.due("member 0", x.member(0), 1);
        CHECK.due("member 1", x.member(1), 2);
        CHECK.due("new one has its own view", x.epoch(2), 2);
    }

    /** "False if there is no living node of that number". */
    private static void adoptOfNoNode() {
        int[] wrong = {-1, 6, Integer.MIN_VALUE, Integer.MAX_VALUE};
        for (int node : wrong) {
            Unchanged.everywhere(CHECK, "adopt " + node, x -> asInt(x.adopt(node)), 0);
            Unchanged.everywhere(CHECK, "epoch " + node, x -> x.epoch(node), -1);
        }
        Unchanged.due(CHECK, "adopt of one not made", Starts::changing, x -> asInt(x.adopt(4)), 0);
        Unchanged.due(CHECK, "adopt of one not made", Starts::changing, x -> asInt(x.adopt(5)), 0);
        Unchanged.due(CHECK, "adopt of a stopped one", Starts::changing, x -> asInt(x.adopt(0)), 0);
        Unchanged.due(CHECK, "epoch of one not made", Starts::changing, x -> x.epoch(4), -1);
        Unchanged.due(CHECK, "epoch of a stopped one", Starts::changing, x -> x.epoch(0), -1);
        Unchanged.due(CHECK, "epoch of one not ready", Starts::changing, x -> x.epoch(3), 2);
        CHECK.due("adopt of a living one", Starts.changing().adopt(2), true);
    }

    /** "or its epoch is that of the newest one already": ready or not. */
    private static void adoptOfTheNewest() {
        Unchanged.due(CHECK, "adopt, one epoch so far", Starts::underWay, x -> asInt(x.adopt(0)), 0);
        Unchanged.due(CHECK, "adopt again", Starts::changing, x -> asInt(x.adopt(1)), 0);
        Unchanged.due(CHECK, "adopt of a new node", Starts::changing, x -> asInt(x.adopt(3)), 0);
        Counted x = Starts.changing();
        CHECK.due("a tick without a new epoch", x.tick(), 2);
        CHECK.due("adopt", x.adopt(1), false);
        CHECK.due("a tick with one", x.tick(), 3);
        CHECK.due("adopt", x.adopt(1), true);
        CHECK.due("adopt of a new node", x.adopt(3), true);
        CHECK.due("not ready by that", x.length(3), -1);
        CHECK.due("its epoch", x.epoch(3), 3);
        CHECK.due("again", x.adopt(3), false);
    }

    /** A second adopt sends no second copy. */
    private static void adoptRefused() {
        Counted x = new Counted(2);
        x.join();
        CHECK.due("adopt", x.adopt(0), true);
        CHECK.due("again", x.adopt(0), false);
        CHECK.due("no second copy", x.waiting(0, 1), 1);
    }

    private static void adoptSkipsToTheNewest() {
        Counted x = new Counted(1);
        x.join();
        x.join();
        CHECK.due("epoch", x.epoch(0), 1);
        CHECK.due("adopt", x.adopt(0), true);
        CHECK.due("epoch", x.epoch(0), 3);
        CHECK.due("epoch", x.epoch(1), 2);
        CHECK.due("no predecessor, one copy", x.waiting(0, 1), 1);
    }

    private static void adoptAsMiddle() {
        Counted x = new Counted(3);
        x.put(0, 0, 1);
        x.deliver(0, 1);
        x.join();
        CHECK.due("adopt", x.adopt(1), true);
        CHECK.due("nothing is settled", x.settled(1), 0);
        CHECK.due("update and copy", x.waiting(1, 2), 2);
        CHECK.due("ack", x.waiting(1, 0), 1);
        CHECK.due("head is behind", x.deliver(1, 0), ChainVersions.BUSY);
        x.adopt(0);
        CHECK.due("ack 0 changes nothing", x.deliver(1, 0), ChainVersions.ACK);
        CHECK.due("settled", x.settled(0), 0);
    }

    private static void adoptAsTailSettles() {
        Counted x = new Counted(3);
        x.put(0, 0, 1);
        x.put(1, 1, 2);
        x.deliver(0, 1);
        x.deliver(0, 1);
        x.get(2, 1, 1);
        Chains.drop(x, 2);
        CHECK.due("write under way", x.status(0), 1);
        CHECK.due("adopt", x.adopt(1), true);
        CHECK.due("settled", x.settled(1), 2);
        CHECK.due("write 0", x.number(0), 1);
        CHECK.due("write 1", x.number(1), 2);
        CHECK.due("read", x.number(2), 2);
        CHECK.due("read", x.value(2), 2);
        CHECK.due("one ack", x.waiting(1, 0), 1);
        x.adopt(0);
        CHECK.due("ack of all", x.deliver(1, 0), ChainVersions.ACK);
        CHECK.due("settled", x.settled(0), 2);
    }

    /** What bears the new epoch already is not lost by adoption. */
    private static void adoptKeepsMessagesOfItsEpoch() {
        Counted x = new Counted(3);
        x.put(0, 0, 1);
        x.join();
        x.adopt(0);
        CHECK.due("update of epoch 1, copy of epoch 2", x.waiting(0, 1), 2);
        x.adopt(1);
        CHECK.due("copy of epoch 2", x.waiting(0, 1), 1);
        CHECK.due("copy", x.deliver(0, 1), ChainVersions.COPY);
        CHECK.due("length", x.length(1), 1);
    }

    private static void readsAreServedAgainByAscendingClients() {
        Counted x = new Counted(3);
        x.put(0, 0, 1);
        x.deliver(0, 1);
        x.deliver(1, 2);
        x.put(0, 1, 2);
        x.get(2, 0, 1);
        x.get(1, 0, 0);
        CHECK.due("two queries", x.waiting(0, 2), 2);
        x.join();
        CHECK.due("adopt", x.adopt(0), true);
        CHECK.due("to the old tail nothing more", x.waiting(0, 2), 2);
        CHECK.due("two queries to the new tail", x.waiting(0, 3), 2);
        CHECK.due("an old query is answered in vain", x.deliver(0, 2), ChainVersions.QUERY);
        CHECK.due("the answer is lost", x.waiting(2, 0), 0);
        x.adopt(1);
        x.adopt(2);
        CHECK.due("the other one is lost", x.waiting(0, 2), 0);
        CHECK.due("copy", x.deliver(2, 3), ChainVersions.COPY);
        CHECK.due("first query", x.deliver(0, 3), ChainVersions.QUERY);
        CHECK.due("first answer", x.deliver(3, 0), ChainVersions.ANSWER);
        CHECK.due("client 1 first", x.status(1), 4);
        CHECK.due("client 1", x.number(1), 1);
        CHECK.due("client 2 waits", x.status(2), 3);
        CHECK.due("second query", x.deliver(0, 3), ChainVersions.QUERY);
        CHECK.due("second answer", x.deliver(3, 0), ChainVersions.ANSWER);
        CHECK.due("client 2", x.number(2), 0);
    }

    /** "First .. it sends COPY .. Third, every read that waits at the node is served again": the copy goes before. */
    private static void copyBeforeReads() {
        Counted x = new Counted(2);
        x.put(0, 1, 5);
        CHECK.due("get", x.get(1, 0, 1), ChainVersions.ASKED);
        x.join();
        Chains.drop(x, 1);
        x.adopt(2);
        CHECK.due("adopt", x.adopt(0), true);
        CHECK.due("copy and query to the new tail", x.waiting(0, 2), 2);
        CHECK.due("copy first", x.deliver(0, 2), ChainVersions.COPY);
        CHECK.due("query then", x.deliver(0, 2), ChainVersions.QUERY);
        CHECK.due("ack", x.deliver(2, 0), ChainVersions.ACK);
        CHECK.due("answer", x.deliver(2, 0), ChainVersions.ANSWER);
        CHECK.due("read", x.number(1), 1);
        CHECK.due("no second query", x.waiting(0, 2), 0);
    }

    /** A read whose key has become clean meanwhile is done by adoption, also in the middle; others are asked again. */
    private static void cleanReadIsDoneByAdoption() {
        Counted x = new Counted(3);
        x.put(0, 1, 5);
        CHECK.due("get", x.get(1, 0, 1), ChainVersions.ASKED);
        Chains.along(x, 0, 1, 2, 1, 0);
        x.put(0, 2, 6);
        CHECK.due("get", x.get(2, 0, 2), ChainVersions.ASKED);
        x.join();
        CHECK.due("adopt", x.adopt(0), true);
        CHECK.due("clean: done", x.status(1), 4);
        CHECK.due("number", x.number(1), 1);
        CHECK.due("value", x.value(1), 5);
        CHECK.due("open: it waits", x.status(2), 3);
        CHECK.due("one query to the new tail", x.waiting(0, 3), 1);
    }

    /** A read that moved to another node is served again by that one's adoption. */
    private static void movedReadIsServedWhereItWaits() {
        Counted x = Starts.underWay();
        x.stop(1);
        CHECK.due("retry", x.retry(2, 0), ChainVersions.ASKED);
        Chains.ticks(x, 3);
        x.adopt(2);
        CHECK.due("another node's adoption", x.status(2), 3);
        CHECK.due("no query", x.waiting(0, 2), 0);
        x.adopt(0);
        CHECK.due("copy and query", x.waiting(0, 2), 2);
    }

    private static void readsAtOtherNodesWaitOn() {
        Counted x = new Counted(3);
        x.put(0, 0, 1);
        x.deliver(0, 1);
        x.get(1, 0, 0);
        x.get(2, 1, 0);
        Chains.drop(x, 2);
        x.adopt(1);
        CHECK.due("read at node 1", x.status(2), 4);
        CHECK.due("read at node 0", x.status(1), 3);
    }

    /** "-1 if there are not so many, or k is below 0". */
    private static void memberEdges() {
        Counted x = new Counted(2);
        CHECK.due("member 0", x.member(0), 0);
        CHECK.due("member 1", x.member(1), 1);
        CHECK.due("not so many", x.member(2), -1);
        CHECK.due("member 5 of six", Starts.six().member(5), 5);
        int[] wrong = {-1, 6, Integer.MIN_VALUE, Integer.MAX_VALUE};
        for (int k : wrong) {
            Unchanged.everywhere(CHECK, "member " + k, y -> y.member(k), -1);
        }
        CHECK.due("join", x.join(), 2);
        CHECK.due("one more", x.member(2), 2);
        CHECK.due("not so many", x.member(3), -1);
        Chains.drop(x, 0);
        CHECK.due("one less", x.member(2), -1);
        CHECK.due("ascending", x.member(0), 1);
        CHECK.due("ascending", x.member(1), 2);
    }

    public static void main(String[] args) {
        stopOfNoNode();
        stopAgainDoesNotCount();
        stopOfTheLastReadyNode();
        stoppedForGood();
        stopLosesWhatWaitsForTheNode();
        sixNodes();
        joinedNode();
        joinSix();
        twoAndThreeTicks();
        tickOfTheLiving();
        tickChangesNoView();
        dropOfANodeNotReady();
        allButOneDropped();
        ticksCountFromEachStop();
        bothOutAtOnce();
        joinBetweenTicks();
        adoptOfNoNode();
        adoptOfTheNewest();
        adoptRefused();
        adoptSkipsToTheNewest();
        adoptAsMiddle();
        adoptAsTailSettles();
        adoptKeepsMessagesOfItsEpoch();
        readsAreServedAgainByAscendingClients();
        copyBeforeReads();
        cleanReadIsDoneByAdoption();
        movedReadIsServedWhereItWaits();
        readsAtOtherNodesWaitOn();
        memberEdges();
        CHECK.end();
    }
}
