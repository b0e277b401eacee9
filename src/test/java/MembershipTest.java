/** Promises 10 to 15: stop, join, tick, adopt, member, epoch. */
public final class MembershipTest {
    private static final Check CHECK = new Check("membership");

    private static void stopRefused() {
        ChainVersions x = new ChainVersions(2);
        int[] wrong = {-1, 2, 5, 6, Integer.MIN_VALUE, Integer.MAX_VALUE};
        for (int node : wrong) {
            CHECK.due("stop " + node, x.stop(node), false);
        }
        CHECK.due("join", x.join(), 2);
        CHECK.due("stop", x.stop(0), true);
        CHECK.due("stop again", x.stop(0), false);
        CHECK.due("the last ready one, another lives", x.stop(1), false);
        CHECK.due("it lives", x.epoch(1), 1);
        CHECK.due("one that is not ready", x.stop(2), true);
        CHECK.due("it does not live", x.epoch(2), -1);
    }

    private static void stopLosesWhatWaitsForTheNode() {
        ChainVersions x = new ChainVersions(3);
        x.put(0, 0, 1);
        x.put(1, 0, 2);
        x.deliver(0, 1);
        x.deliver(1, 2);
        x.get(2, 1, 0);
        CHECK.due("before: 0 to 1", x.waiting(0, 1), 1);
        CHECK.due("before: 2 to 1", x.waiting(2, 1), 1);
        CHECK.due("before: 1 to 2", x.waiting(1, 2), 1);
        CHECK.due("stop", x.stop(1), true);
        CHECK.due("after: 0 to 1", x.waiting(0, 1), 0);
        CHECK.due("after: 2 to 1", x.waiting(2, 1), 0);
        CHECK.due("after: 1 to 2", x.waiting(1, 2), 1);
        CHECK.due("nothing comes to it", x.deliver(0, 1), ChainVersions.EMPTY);
        x.put(0, 3, 3);
        CHECK.due("what is sent to it is lost", x.waiting(0, 1), 0);
        CHECK.due("what it sent arrives", x.deliver(1, 2), ChainVersions.QUERY);
        CHECK.due("the answer is lost", x.waiting(2, 1), 0);
        CHECK.due("length", x.length(1), -1);
        CHECK.due("settled", x.settled(1), -1);
        CHECK.due("version", x.version(1, 0, 0), -1);
        CHECK.due("look", x.look(1, 0, 1), 0);
        CHECK.due("adopt", x.adopt(1), false);
        CHECK.due("it is a member still", x.member(1), 1);
    }

    private static void joinSix() {
        ChainVersions x = new ChainVersions(3);
        CHECK.due("stop", x.stop(2), true);
        for (int node = 3; node < 6; node++) {
            CHECK.due("join", x.join(), node);
            CHECK.due("epoch of the new one", x.epoch(node), node - 1);
            CHECK.due("not ready", x.length(node), -1);
            CHECK.due("not ready", x.settled(node), -1);
            CHECK.due("not ready", x.version(node, 0, 0), -1);
            CHECK.due("its view is the newest", x.adopt(node), false);
            CHECK.due("last member", x.member(node), node);
            CHECK.due("no more members", x.member(node + 1), -1);
        }
        CHECK.due("a stopped member stays", x.member(2), 2);
        CHECK.due("six nodes, one stopped", x.join(), -1);
        CHECK.due("no new epoch", x.tick(), 4);
        CHECK.due("others keep their views", x.epoch(0), 1);
        CHECK.due("tick", x.tick(), 4);
        CHECK.due("tick", x.tick(), 5);
        CHECK.due("still six nodes made", x.join(), -1);
        CHECK.due("member 2", x.member(2), 3);
        CHECK.due("member 4", x.member(4), 5);
        CHECK.due("member 5", x.member(5), -1);
        CHECK.due("an older joined one", x.epoch(3), 2);
        CHECK.due("adopts", x.adopt(3), true);
        CHECK.due("adopted", x.epoch(3), 5);
        CHECK.due("not ready by that", x.length(3), -1);
    }

    private static void ticksCountFromEachStop() {
        ChainVersions x = new ChainVersions(3);
        CHECK.due("tick", x.tick(), 1);
        Chains.ticks(x, 5);
        x.stop(1);
        CHECK.due("first", x.tick(), 1);
        x.stop(2);
        CHECK.due("second", x.tick(), 1);
        CHECK.due("third", x.tick(), 2);
        CHECK.due("one is out", x.member(1), 2);
        CHECK.due("one is out", x.member(2), -1);
        CHECK.due("third of the other", x.tick(), 3);
        CHECK.due("both are out", x.member(0), 0);
        CHECK.due("both are out", x.member(1), -1);
        CHECK.due("no more", x.tick(), 3);
        CHECK.due("no more", x.tick(), 3);
    }

    private static void bothOutAtOnce() {
        ChainVersions x = new ChainVersions(3);
        x.stop(0);
        x.stop(1);
        Chains.ticks(x, 2);
        CHECK.due("one epoch for both", x.tick(), 2);
        CHECK.due("member", x.member(0), 2);
        CHECK.due("member", x.member(1), -1);
    }

    private static void joinBetweenTicks() {
        ChainVersions x = new ChainVersions(2);
        x.stop(0);
        Chains.ticks(x, 2);
        CHECK.due("join", x.join(), 2);
        CHECK.due("the stopped one is a member", x.member(0), 0);
        CHECK.due("tick", x.tick(), 3);
        CHECK.due("member 0", x.member(0), 1);
        CHECK.due("member 1", x.member(1), 2);
        CHECK.due("new one has its own view", x.epoch(2), 2);
    }

    private static void adoptRefused() {
        ChainVersions x = new ChainVersions(2);
        x.join();
        int[] wrong = {-1, 3, 6, Integer.MIN_VALUE, Integer.MAX_VALUE};
        for (int node : wrong) {
            CHECK.due("adopt " + node, x.adopt(node), false);
            CHECK.due("epoch " + node, x.epoch(node), -1);
        }
        CHECK.due("newest already", x.adopt(2), false);
        CHECK.due("adopt", x.adopt(0), true);
        CHECK.due("again", x.adopt(0), false);
        CHECK.due("no second copy", x.waiting(0, 1), 1);
    }

    private static void adoptSkipsToTheNewest() {
        ChainVersions x = new ChainVersions(1);
        x.join();
        x.join();
        CHECK.due("epoch", x.epoch(0), 1);
        CHECK.due("adopt", x.adopt(0), true);
        CHECK.due("epoch", x.epoch(0), 3);
        CHECK.due("epoch", x.epoch(1), 2);
        CHECK.due("no predecessor, one copy", x.waiting(0, 1), 1);
    }

    private static void adoptAsMiddle() {
        ChainVersions x = new ChainVersions(3);
        x.put(0, 0, 1);
        x.deliver(0, 1);
        x.join();
        CHECK.due("adopt", x.adopt(1), true);
        CHECK.due("nothing is settled", x.settled(1), 0);
        CHECK.due("update and copy", x.waiting(1, 2), 2);
        CHECK.due("ack", x.waiting(1, 0), 1);
        CHECK.due("head is behind", x.deliver(1, 0), ChainVersions.BUSY);
        x.adopt(0);
        CHECK.due("ack 0 changes nothing", x.deliver(1, 0), ChainVersions.ACK);
        CHECK.due("settled", x.settled(0), 0);
    }

    private static void adoptAsTailSettles() {
        ChainVersions x = new ChainVersions(3);
        x.put(0, 0, 1);
        x.put(1, 1, 2);
        x.deliver(0, 1);
        x.deliver(0, 1);
        x.get(2, 1, 1);
        Chains.drop(x, 2);
        CHECK.due("write under way", x.status(0), 1);
        CHECK.due("adopt", x.adopt(1), true);
        CHECK.due("settled", x.settled(1), 2);
        CHECK.due("write 0", x.number(0), 1);
        CHECK.due("write 1", x.number(1), 2);
        CHECK.due("read", x.number(2), 2);
        CHECK.due("read", x.value(2), 2);
        CHECK.due("one ack", x.waiting(1, 0), 1);
        x.adopt(0);
        CHECK.due("ack of all", x.deliver(1, 0), ChainVersions.ACK);
        CHECK.due("settled", x.settled(0), 2);
    }

    /** What bears the new epoch already is not lost by adoption. */
    private static void adoptKeepsMessagesOfItsEpoch() {
        ChainVersions x = new ChainVersions(3);
        x.put(0, 0, 1);
        x.join();
        x.adopt(0);
        CHECK.due("update of epoch 1, copy of epoch 2", x.waiting(0, 1), 2);
        x.adopt(1);
        CHECK.due("copy of epoch 2", x.waiting(0, 1), 1);
        CHECK.due("copy", x.deliver(0, 1), ChainVersions.COPY);
        CHECK.due("length", x.length(1), 1);
    }

    private static void readsAreServedAgainByAscendingClients() {
        ChainVersions x = new ChainVersions(3);
        x.put(0, 0, 1);
        x.deliver(0, 1);
        x.deliver(1, 2);
        x.put(0, 1, 2);
        x.get(2, 0, 1);
        x.get(1, 0, 0);
        CHECK.due("two queries", x.waiting(0, 2), 2);
        x.join();
        CHECK.due("adopt", x.adopt(0), true);
        CHECK.due("to the old tail nothing more", x.waiting(0, 2), 2);
        CHECK.due("two queries to the new tail", x.waiting(0, 3), 2);
        CHECK.due("an old query is answered in vain", x.deliver(0, 2), ChainVersions.QUERY);
        CHECK.due("the answer is lost", x.waiting(2, 0), 0);
        x.adopt(1);
        x.adopt(2);
        CHECK.due("the other one is lost", x.waiting(0, 2), 0);
        CHECK.due("copy", x.deliver(2, 3), ChainVersions.COPY);
        CHECK.due("first query", x.deliver(0, 3), ChainVersions.QUERY);
        CHECK.due("first answer", x.deliver(3, 0), ChainVersions.ANSWER);
        CHECK.due("client 1 first", x.status(1), 4);
        CHECK.due("client 1", x.number(1), 1);
        CHECK.due("client 2 waits", x.status(2), 3);
        CHECK.due("second query", x.deliver(0, 3), ChainVersions.QUERY);
        CHECK.due("second answer", x.deliver(3, 0), ChainVersions.ANSWER);
        CHECK.due("client 2", x.number(2), 0);
    }

    private static void readsAtOtherNodesWaitOn() {
        ChainVersions x = new ChainVersions(3);
        x.put(0, 0, 1);
        x.deliver(0, 1);
        x.get(1, 0, 0);
        x.get(2, 1, 0);
        Chains.drop(x, 2);
        x.adopt(1);
        CHECK.due("read at node 1", x.status(2), 4);
        CHECK.due("read at node 0", x.status(1), 3);
    }

    private static void memberEdges() {
        ChainVersions x = new ChainVersions(2);
        int[] wrong = {-1, 2, 6, Integer.MIN_VALUE, Integer.MAX_VALUE};
        for (int k : wrong) {
            CHECK.due("member " + k, x.member(k), -1);
        }
        CHECK.due("member 1", x.member(1), 1);
    }

    public static void main(String[] args) {
        stopRefused();
        stopLosesWhatWaitsForTheNode();
        joinSix();
        ticksCountFromEachStop();
        bothOutAtOnce();
        joinBetweenTicks();
        adoptRefused();
        adoptSkipsToTheNewest();
        adoptAsMiddle();
        adoptAsTailSettles();
        adoptKeepsMessagesOfItsEpoch();
        readsAreServedAgainByAscendingClients();
        readsAtOtherNodesWaitOn();
        memberEdges();
        CHECK.end();
    }
}
