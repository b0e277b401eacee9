import java.util.ArrayDeque;
import java.util.ArrayList;
import java.util.List;

/**
 * The document's terms once more, in their plainest form: updates bear their numbers, copies bear all that was
 * held, every link is a queue of its own. It also checks what the program takes for granted.
 */
final class PlainModel {
    record Update(int number, int key, int value, int client, int request) { }

    record Message(int kind, int epoch, Update update, int n, int key, int client, List<Update> held, int settled) { }

    static final class Node {
        boolean living = true;
        boolean ready;
        int epoch;
        int stopTick;
        int settled;
        List<Update> held = new ArrayList<>();
    }

    static final class Request {
        boolean write;
        boolean done;
        int key;
        int value;
        int request;
        int at = -1;
        int doneNumber;
        int doneValue;
    }

    final List<Node> nodes = new ArrayList<>();
    final List<List<Integer>> configurations = new ArrayList<>();
    final List<List<ArrayDeque<Message>>> links = new ArrayList<>();
    final Request[] latest = new Request[3];
    final int[] puts = new int[3];
    int ticks = 0;

    PlainModel(int nodes) {
        int n = nodes < 1 ? 1 : nodes > 3 ? 3 : nodes;
        List<Integer> first = new ArrayList<>();
        for (int i = 0; i < n; i++) {
            Node node = new Node();
            node.ready = true;
            node.epoch = 1;
            this.nodes.add(node);
            first.add(i);
        }
        configurations.add(first);
        for (int from = 0; from < 6; from++) {
            links.add(new ArrayList<>());
            for (int to = 0; to < 6; to++) {
                links.get(from).add(new ArrayDeque<>());
            }
        }
    }

    private static void sure(boolean holds, String what) {
        if (!holds) {
            throw new IllegalStateException(what);
        }
    }

    private int newestEpoch() {
        return configurations.size();
    }

    private List<Integer> newest() {
        return configurations.get(configurations.size() - 1);
    }

    private List<Integer> view(int i) {
        return configurations.get(nodes.get(i).epoch - 1);
    }

    private boolean lives(int i) {
        return i >= 0 && i < nodes.size() && nodes.get(i).living;
    }

    private boolean serves(int i) {
        return lives(i) && nodes.get(i).ready;
    }

    private boolean isTail(int i) {
        List<Integer> view = view(i);
        return view.get(view.size() - 1) == i;
    }

    private void send(int from, int to, Message message) {
        sure(from != to, "a node sends to itself");
        Node receiver = nodes.get(to);
        if (receiver.living && receiver.epoch <= message.epoch) {
            links.get(from).get(to).add(message);
        }
    }

    private void ack(int i) {
        Node node = nodes.get(i);
        int place = view(i).indexOf(i);
        if (place > 0) {
            send(i, view(i).get(place - 1), new Message(2, node.epoch, null, node.settled, 0, 0, null, 0));
        }
    }

    private void copy(int i) {
        Node node = nodes.get(i);
        int successor = view(i).get(view(i).indexOf(i) + 1);
        send(i, successor, new Message(5, node.epoch, null, 0, 0, 0, List.copyOf(node.held), node.settled));
    }

    private void settleAll(int i) {
        Node node = nodes.get(i);
        for (Update u : node.held) {
            Request r = latest[u.client];
            if (u.number > node.settled && r != null && r.write && !r.done && r.request == u.request) {
                r.done = true;
                r.doneNumber = u.number;
                r.doneValue = u.value;
            }
        }
        node.settled = node.held.size();
    }

    private void take(int i, Update u) {
        Node node = nodes.get(i);
        sure(u.number == node.held.size() + 1, "an update's number is not the next one");
        sure(u.number <= 100, "more than a hundred updates");
        node.held.add(u);
        if (isTail(i)) {
            settleAll(i);
            ack(i);
        } else {
            int successor = view(i).get(view(i).indexOf(i) + 1);
            send(i, successor, new Message(1, node.epoch, u, 0, 0, 0, null, 0));
        }
    }

    /** The versions of a key at a node as updates; the first is the clean one. */
    private List<Update> versions(int i, int key) {
        Node node = nodes.get(i);
        List<Update> found = new ArrayList<>();
        found.add(new Update(0, key, 0, -1, -1));
        for (Update u : node.held) {
            if (u.key == key && u.number <= node.settled) {
                found.set(0, u);
            } else if (u.key == key) {
                found.add(u);
            }
        }
        return found;
    }

    private static void readDone(Request r, Update version) {
        r.done = true;
        r.at = -1;
        r.doneNumber = version.number;
        r.doneValue = version.value;
    }

    private int serve(int c, int i) {
        Request r = latest[c];
        List<Update> versions = versions(i, r.key);
        if (versions.size() == 1) {
            readDone(r, versions.get(0));
            return 5;
        }
        r.at = i;
        List<Integer> view = view(i);
        send(i, view.get(view.size() - 1), new Message(3, nodes.get(i).epoch, null, 0, r.key, c, null, 0));
        return 6;
    }

    private int sendWrite(int c) {
        Request r = latest[c];
        int first = newest().get(0);
        Node node = nodes.get(first);
        if (!node.living || view(first).get(0) != first) {
            return 0;
        }
        sure(node.ready, "a head is not ready");
        for (Update u : node.held) {
            if (u.client == c && u.request == r.request) {
                sure(u.number > node.settled || r.done, "a settled write is not done");
                return u.number <= node.settled ? 4 : 3;
            }
        }
        sure(!r.done, "a write that was done is held no more");
        if (node.held.size() - node.settled >= 8 || node.held.size() == 100) {
            return 1;
        }
        take(first, new Update(node.held.size() + 1, r.key, r.value, c, r.request));
        return 2;
    }

    private static boolean in(int x, int count) {
        return x >= 0 && x < count;
    }

    private boolean underWay(int c) {
        return latest[c] != null && !latest[c].done;
    }

    int put(int c, int key, int value) {
        if (!in(c, 3) || !in(key, 4)) {
            return -1;
        }
        if (underWay(c)) {
            return -2;
        }
        Request r = new Request();
        r.write = true;
        r.key = key;
        r.value = value;
        r.request = ++puts[c];
        latest[c] = r;
        return sendWrite(c);
    }

    int get(int c, int node, int key) {
        if (!in(c, 3) || !in(key, 4) || !in(node, 6)) {
            return -1;
        }
        if (underWay(c)) {
            return -2;
        }
        if (!serves(node)) {
            return 0;
        }
        latest[c] = new Request();
        latest[c].key = key;
        return serve(c, node);
    }

    int retry(int c, int node) {
        if (!in(c, 3)) {
            return -1;
        }
        Request r = latest[c];
        if (r == null || (!r.write && r.done)) {
            return -3;
        }
        if (r.write) {
            return sendWrite(c);
        }
        if (nodes.get(r.at).living) {
            return -2;
        }
        if (!in(node, 6)) {
            return -1;
        }
        return serves(node) ? serve(c, node) : 0;
    }

    int status(int c) {
        if (!in(c, 3)) {
            return -1;
        }
        Request r = latest[c];
        return r == null ? 0 : (r.write ? 1 : 3) + (r.done ? 1 : 0);
    }

    int number(int c) {
        return in(c, 3) && latest[c] != null && latest[c].done ? latest[c].doneNumber : -1;
    }

    int value(int c) {
        return in(c, 3) && latest[c] != null && latest[c].done ? latest[c].doneValue : 0;
    }

    int deliver(int from, int to) {
        if (!in(from, 6) || !in(to, 6)) {
            return -1;
        }
        ArrayDeque<Message> link = links.get(from).get(to);
        if (link.isEmpty()) {
            return 0;
        }
        Message m = link.peek();
        Node node = nodes.get(to);
        sure(node.living, "a message waits for a stopped node");
        sure(m.epoch >= node.epoch, "a message of a lower epoch waits");
        if (m.epoch > node.epoch || (!node.ready && m.kind != 5)) {
            return -2;
        }
        link.poll();
        act(from, to, node, m);
        return m.kind;
    }

    private void act(int from, int to, Node node, Message m) {
        if (m.kind == 1) {
            take(to, m.update);
        } else if (m.kind == 2 && m.n > node.settled) {
            sure(m.n <= node.held.size(), "more is settled than held");
            node.settled = m.n;
            ack(to);
        } else if (m.kind == 3) {
            sure(isTail(to), "a query comes to a node that is not the tail");
            int clean = versions(to, m.key).get(0).number;
            send(to, from, new Message(4, node.epoch, null, clean, m.key, m.client, null, 0));
        } else if (m.kind == 4) {
            Request r = latest[m.client];
            sure(!r.write && !r.done && r.at == to && r.key == m.key, "an answer finds no read");
            List<Update> versions = versions(to, m.key);
            Update told = versions.get(0);
            for (Update u : versions) {
                told = u.number == m.n ? u : told;
            }
            readDone(r, told);
        } else if (m.kind == 5 && node.ready) {
            int before = node.held.size();
            for (Update u : m.held) {
                if (u.number > before) {
                    take(to, u);
                }
            }
        } else if (m.kind == 5) {
            node.held = new ArrayList<>(m.held);
            node.settled = m.settled;
            node.ready = true;
            tellNeighbours(to);
        }
    }

    private void tellNeighbours(int i) {
        if (isTail(i)) {
            settleAll(i);
        } else {
            copy(i);
        }
        ack(i);
    }

    int waiting(int from, int to) {
        return in(from, 6) && in(to, 6) ? links.get(from).get(to).size() : -1;
    }

    int stop(int node) {
        boolean other = false;
        for (int i = 0; i < nodes.size(); i++) {
            other |= i != node && serves(i);
        }
        if (!lives(node) || !other) {
            return 0;
        }
        nodes.get(node).living = false;
        nodes.get(node).stopTick = ticks;
        for (int from = 0; from < 6; from++) {
            links.get(from).get(node).clear();
        }
        return 1;
    }

    int join() {
        if (nodes.size() == 6) {
            return -1;
        }
        List<Integer> members = new ArrayList<>(newest());
        members.add(nodes.size());
        configurations.add(members);
        Node node = new Node();
        node.epoch = newestEpoch();
        nodes.add(node);
        return nodes.size() - 1;
    }

    int tick() {
        ticks++;
        List<Integer> kept = new ArrayList<>(newest());
        kept.removeIf(i -> !nodes.get(i).living && ticks - nodes.get(i).stopTick >= 3);
        if (kept.size() < newest().size()) {
            configurations.add(kept);
        }
        return newestEpoch();
    }

    int adopt(int i) {
        if (!lives(i) || nodes.get(i).epoch == newestEpoch()) {
            return 0;
        }
        Node node = nodes.get(i);
        node.epoch = newestEpoch();
        for (int from = 0; from < 6; from++) {
            links.get(from).get(i).removeIf(m -> m.epoch < node.epoch);
        }
        if (node.ready) {
            tellNeighbours(i);
            for (int c = 0; c < 3; c++) {
                Request r = latest[c];
                if (r != null && !r.write && !r.done && r.at == i) {
                    serve(c, i);
                }
            }
        }
        return 1;
    }

    int member(int k) {
        return in(k, newest().size()) ? newest().get(k) : -1;
    }

    int epoch(int i) {
        return lives(i) ? nodes.get(i).epoch : -1;
    }

    int length(int i) {
        return serves(i) ? nodes.get(i).held.size() : -1;
    }

    int settled(int i) {
        return serves(i) ? nodes.get(i).settled : -1;
    }

    private Update versionAt(int i, int key, int ahead) {
        if (!serves(i) || !in(key, 4) || ahead < 0) {
            return null;
        }
        List<Update> versions = versions(i, key);
        return versions.get(Math.min(ahead, versions.size() - 1));
    }

    int version(int i, int key, int ahead) {
        Update u = versionAt(i, key, ahead);
        return u == null ? -1 : u.number;
    }

    int look(int i, int key, int ahead) {
        Update u = versionAt(i, key, ahead);
        return u == null ? 0 : u.value;
    }
}
