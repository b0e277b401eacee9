import java.util.ArrayList;

/** A store of numbers that is kept by a chain of nodes; the promises stand in DOC.md. */
public final class ChainVersions {
    public static final int BAD = -1;
    public static final int BUSY = -2;
    public static final int IDLE = -3;
    public static final int LOST = 0, FULL = 1, TAKEN = 2, KNOWN = 3, SETTLED = 4, READ = 5, ASKED = 6;
    public static final int EMPTY = 0, UPDATE = 1, ACK = 2, QUERY = 3, ANSWER = 4, COPY = 5;

    private static final int NODE_LIMIT = 6;
    private static final int FIRST_NODES_LIMIT = 3;
    private static final int KEY_COUNT = 4;
    private static final int CLIENT_COUNT = 3;
    private static final int LENGTH_LIMIT = 100;
    private static final int OPEN_LIMIT = 8;
    private static final int SILENCE_LIMIT = 3;

    /** Stands for a node, a place or a number that there is not. */
    private static final int NONE = -1;

    /** The states of a client, as status() answers them. */
    private static final int NO_REQUEST = 0, WRITING = 1, WRITTEN = 2, READING = 3, HAS_READ = 4;

    private final Node[] nodes = new Node[NODE_LIMIT];
    private final Client[] clients = new Client[CLIENT_COUNT];

    /** What waits on all links together, in the order of sending: that keeps the order of each link too. */
    private final ArrayList<Message> underWay = new ArrayList<>();

    private Configuration newest;
    private int nodeCount;
    private int clock;

    public ChainVersions(int nodes) {
        int count = Math.max(1, Math.min(FIRST_NODES_LIMIT, nodes));
        int[] members = new int[count];
        for (int i = 0; i < count; i++) {
            members[i] = i;
        }
        newest = new Configuration(1, members);
        for (int i = 0; i < count; i++) {
            this.nodes[i] = new Node(i, newest, true);
        }
        nodeCount = count;
        for (int c = 0; c < CLIENT_COUNT; c++) {
            clients[c] = new Client();
        }
    }

    public int put(int c, int key, int value) {
        Client client = clientOf(c);
        if (client == null || !isKey(key)) {
            return BAD;
        }
        if (client.isUnderWay()) {
            return BUSY;
        }
        client.beginWrite(key, value);
        return sendWrite(c, client);
    }

    public int get(int c, int node, int key) {
        Client client = clientOf(c);
        if (client == null || !isKey(key) || !isNodeNumber(node)) {
            return BAD;
        }
        if (client.isUnderWay()) {
            return BUSY;
        }
        Node server = readyNode(node);
        if (server == null) {
            return LOST;
        }
        client.beginRead(key);
        return serve(c, client, server);
    }

    public int retry(int c, int node) {
        Client client = clientOf(c);
        if (client == null) {
            return BAD;
        }
        if (client.state == NO_REQUEST || client.state == HAS_READ) {
            return IDLE;
        }
        if (client.state != READING) {
            return sendWrite(c, client);
        }
        if (livingNode(client.waitsAt) != null) {
            return BUSY;
        }
        if (!isNodeNumber(node)) {
            return BAD;
        }
        Node server = readyNode(node);
        return server == null ? LOST : serve(c, client, server);
    }

    public int status(int c) {
        Client client = clientOf(c);
        return client == null ? BAD : client.state;
    }

    public int number(int c) {
        Client client = clientOf(c);
        return client == null || !client.isDone() ? NONE : client.doneNumber;
    }

    public int value(int c) {
        Client client = clientOf(c);
        return client == null || !client.isDone() ? 0 : client.doneValue;
    }

    public int deliver(int from, int to) {
        if (!isNodeNumber(from) || !isNodeNumber(to)) {
            return BAD;
        }
        int place = firstOnLink(from, to);
        Node node = livingNode(to);
        if (place == NONE || node == null) {
            return EMPTY;
        }
        Message message = underWay.get(place);
        if (message.epoch > node.view.epoch || (!node.ready && message.kind != COPY)) {
            return BUSY;
        }
        underWay.remove(place);
        receive(node, message);
        return message.kind;
    }

    public int waiting(int from, int to) {
        if (!isNodeNumber(from) || !isNodeNumber(to)) {
            return NONE;
        }
        int count = 0;
        for (int i = 0; i < underWay.size(); i++) {
            if (underWay.get(i).isOnLink(from, to)) {
                count++;
            }
        }
        return count;
    }

    public boolean stop(int node) {
        Node stopped = livingNode(node);
        if (stopped == null || !hasOtherReadyNode(node)) {
            return false;
        }
        stopped.living = false;
        stopped.stoppedAt = clock;
        // Every epoch is lower than this, so nothing on the links to the node is spared.
        loseMessagesTo(node, Integer.MAX_VALUE);
        return true;
    }

    public int join() {
        if (nodeCount >= NODE_LIMIT) {
            return NONE;
        }
        int number = nodeCount;
        newest = newest.with(number);
        nodes[number] = new Node(number, newest, false);
        nodeCount++;
        return number;
    }

    public int tick() {
        clock++;
        int silent = 0;
        for (int i = 0; i < newest.members.length; i++) {
            if (isLongSilent(newest.members[i])) {
                silent++;
            }
        }
        if (silent > 0) {
            newest = withoutSilent(silent);
        }
        return newest.epoch;
    }

    public boolean adopt(int node) {
        Node adopter = livingNode(node);
        if (adopter == null || adopter.view.epoch == newest.epoch) {
            return false;
        }
        adopter.view = newest;
        loseMessagesTo(node, newest.epoch);
        if (adopter.ready) {
            tellNeighbours(adopter);
            serveWaitingReads(adopter);
        }
        return true;
    }

    public int member(int k) {
        return newest.memberAt(k);
    }

    public int epoch(int node) {
        Node asked = livingNode(node);
        return asked == null ? NONE : asked.view.epoch;
    }

    public int length(int node) {
        Node asked = readyNode(node);
        return asked == null ? NONE : asked.length;
    }

    public int settled(int node) {
        Node asked = readyNode(node);
        return asked == null ? NONE : asked.settled;
    }

    public int version(int node, int key, int ahead) {
        Node asked = readyNode(node);
        return asked == null || !isKey(key) || ahead < 0 ? NONE : asked.versionAt(key, ahead);
    }

    public int look(int node, int key, int ahead) {
        Node asked = readyNode(node);
        return asked == null || !isKey(key) || ahead < 0 ? 0 : asked.valueOf(asked.versionAt(key, ahead));
    }

    private static boolean isNodeNumber(int node) {
        return node >= 0 && node < NODE_LIMIT;
    }

    private static boolean isKey(int key) {
        return key >= 0 && key < KEY_COUNT;
    }

    private Client clientOf(int c) {
        return c >= 0 && c < CLIENT_COUNT ? clients[c] : null;
    }

    private Node madeNode(int node) {
        return isNodeNumber(node) ? nodes[node] : null;
    }

    private Node livingNode(int node) {
        // Not by way of madeNode: the longest paths of calls end here, and they may go only eight deep.
        Node made = node >= 0 && node < NODE_LIMIT ? nodes[node] : null;
        return made != null && made.living ? made : null;
    }

    private Node readyNode(int node) {
        Node living = livingNode(node);
        return living != null && living.ready ? living : null;
    }

    private boolean hasOtherReadyNode(int node) {
        for (int i = 0; i < NODE_LIMIT; i++) {
            if (i != node && readyNode(i) != null) {
                return true;
            }
        }
        return false;
    }

    private boolean isLongSilent(int member) {
        Node node = madeNode(member);
        return node != null && !node.living && clock - node.stoppedAt >= SILENCE_LIMIT;
    }

    private Configuration withoutSilent(int silent) {
        int[] members = newest.members;
        int[] kept = new int[Math.max(0, members.length - silent)];
        int count = 0;
        for (int i = 0; i < members.length && count < kept.length; i++) {
            if (!isLongSilent(members[i])) {
                kept[count] = members[i];
                count++;
            }
        }
        return new Configuration(newest.epoch + 1, kept);
    }

    private int sendWrite(int c, Client client) {
        Node node = livingNode(newest.head());
        if (node == null || !node.isHead()) {
            return LOST;
        }
        int known = node.numberOf(c, client.writes);
        if (known != NONE) {
            return known <= node.settled ? SETTLED : KNOWN;
        }
        if (node.isFull()) {
            return FULL;
        }
        take(node, new Update(client.key, client.written, c, client.writes));
        return TAKEN;
    }

    private int serve(int c, Client client, Node node) {
        if (node.isClean(client.key)) {
            finishRead(client, node, node.cleanVersion(client.key));
            return READ;
        }
        client.waitsAt = node.number;
        Message query = new Message(QUERY, node, node.view.tail());
        query.key = client.key;
        query.client = c;
        send(query);
        return ASKED;
    }

    private void serveWaitingReads(Node node) {
        for (int c = 0; c < CLIENT_COUNT; c++) {
            if (clients[c].isReadingAt(node.number)) {
                serve(c, clients[c], node);
            }
        }
    }

    private static void finishRead(Client client, Node node, int number) {
        client.finish(HAS_READ, number, node.valueOf(number));
    }

    private void receive(Node node, Message message) {
        switch (message.kind) {
            case UPDATE:
                take(node, message.update);
                break;
            case ACK:
                settleUpTo(node, message.number);
                break;
            case QUERY:
                answer(node, message);
                break;
            case ANSWER:
                useAnswer(node, message);
                break;
            default:
                receiveCopy(node, message);
                break;
        }
    }

    private void take(Node node, Update update) {
        if (!node.hold(update)) {
            return;
        }
        if (node.isTail()) {
            settleAll(node);
            sendAck(node);
            return;
        }
        Message message = new Message(UPDATE, node, node.successor());
        message.update = update;
        send(message);
    }

    private void settleAll(Node node) {
        for (int n = node.settled + 1; n <= node.length; n++) {
            finishWrite(node.updateAt(n), n);
        }
        node.settled = node.length;
    }

    private void finishWrite(Update update, int number) {
        Client client = update == null ? null : clientOf(update.client);
        if (client != null && client.state == WRITING && client.writes == update.request) {
            client.finish(WRITTEN, number, update.value);
        }
    }

    private void settleUpTo(Node node, int number) {
        if (number > node.settled) {
            node.settled = number;
            sendAck(node);
        }
    }

    private void answer(Node node, Message query) {
        Message message = new Message(ANSWER, node, query.from);
        message.client = query.client;
        message.number = node.cleanVersion(query.key);
        send(message);
    }

    private void useAnswer(Node node, Message message) {
        Client client = clientOf(message.client);
        if (client == null || !client.isReadingAt(node.number)) {
            return;
        }
        boolean isThere = node.hasVersion(client.key, message.number);
        finishRead(client, node, isThere ? message.number : node.cleanVersion(client.key));
    }

    private void receiveCopy(Node node, Message copy) {
        Node sender = madeNode(copy.from);
        if (sender == null) {
            return;
        }
        // A sender only ever adds to what it holds, so its first updates are still those of the copy.
        if (node.ready) {
            for (int n = node.length + 1; n <= copy.number; n++) {
                take(node, sender.updateAt(n));
            }
            return;
        }
        for (int n = node.length + 1; n <= copy.number; n++) {
            node.hold(sender.updateAt(n));
        }
        node.settled = copy.settled;
        node.ready = true;
        tellNeighbours(node);
    }

    /** What a ready node does first when its place in the chain is new to it. */
    private void tellNeighbours(Node node) {
        if (node.isTail()) {
            settleAll(node);
        } else {
            sendCopy(node);
        }
        sendAck(node);
    }

    private void sendCopy(Node node) {
        Message message = new Message(COPY, node, node.successor());
        message.number = node.length;
        message.settled = node.settled;
        send(message);
    }

    private void sendAck(Node node) {
        Message message = new Message(ACK, node, node.predecessor());
        message.number = node.settled;
        send(message);
    }

    /** A message to no node (the head has no predecessor) or to one that would not heed it is lost. */
    private void send(Message message) {
        Node receiver = livingNode(message.to);
        if (receiver != null && receiver.view.epoch <= message.epoch) {
            underWay.add(message);
        }
    }

    private int firstOnLink(int from, int to) {
        for (int i = 0; i < underWay.size(); i++) {
            if (underWay.get(i).isOnLink(from, to)) {
                return i;
            }
        }
        return NONE;
    }

    private void loseMessagesTo(int node, int epoch) {
        for (int i = underWay.size() - 1; i >= 0; i--) {
            Message message = underWay.get(i);
            if (message.to == node && message.epoch < epoch) {
                underWay.remove(i);
            }
        }
    }

    /** An update without its number: that is its place in the log of the node that holds it. */
    private static final class Update {
        final int key;
        final int value;
        final int client;
        final int request;

        Update(int key, int value, int client, int request) {
            this.key = key;
            this.value = value;
            this.client = client;
            this.request = request;
        }
    }

    /** A message on a link; which of the fields below the epoch are used depends on its kind. */
    private static final class Message {
        final int kind;
        final int from;
        final int to;
        final int epoch;
        Update update;
        int number;
        int settled;
        int key;
        int client;

        Message(int kind, Node sender, int to) {
            this.kind = kind;
            this.from = sender.number;
            this.to = to;
            this.epoch = sender.view.epoch;
        }

        boolean isOnLink(int sender, int receiver) {
            return from == sender && to == receiver;
        }
    }

    /** A list of nodes with its epoch; it never changes, so nodes may share it as their view. */
    private static final class Configuration {
        final int epoch;
        final int[] members;

        Configuration(int epoch, int[] members) {
            this.epoch = epoch;
            this.members = members;
        }

        int memberAt(int place) {
            return place >= 0 && place < members.length ? members[place] : NONE;
        }

        int head() {
            return memberAt(0);
        }

        int tail() {
            return memberAt(members.length - 1);
        }

        int neighbour(int node, int step) {
            for (int i = 0; i < members.length; i++) {
                if (members[i] == node) {
                    int place = i + step;
                    return place >= 0 && place < members.length ? members[place] : NONE;
                }
            }
            return NONE;
        }

        Configuration with(int node) {
            int[] more = new int[members.length + 1];
            System.arraycopy(members, 0, more, 0, members.length);
            more[members.length] = node;
            return new Configuration(epoch + 1, more);
        }
    }

    /** A node with its log: the update with the number n stands at place n - 1. */
    private static final class Node {
        final int number;
        final Update[] log = new Update[LENGTH_LIMIT];
        Configuration view;
        boolean living = true;
        boolean ready;
        int stoppedAt;
        int length;
        int settled;

        Node(int number, Configuration view, boolean ready) {
            this.number = number;
            this.view = view;
            this.ready = ready;
        }

        boolean isHead() {
            return view.head() == number;
        }

        boolean isTail() {
            return view.tail() == number;
        }

        int predecessor() {
            return view.neighbour(number, -1);
        }

        int successor() {
            return view.neighbour(number, 1);
        }

        boolean isFull() {
            return length - settled >= OPEN_LIMIT || length >= LENGTH_LIMIT;
        }

        boolean hold(Update update) {
            if (update == null || length >= LENGTH_LIMIT) {
                return false;
            }
            log[length] = update;
            length++;
            return true;
        }

        Update updateAt(int n) {
            return n >= 1 && n <= length ? log[n - 1] : null;
        }

        int valueOf(int n) {
            Update update = updateAt(n);
            return update == null ? 0 : update.value;
        }

        boolean isOfKey(int n, int key) {
            Update update = updateAt(n);
            return update != null && update.key == key;
        }

        int numberOf(int client, int request) {
            for (int n = 1; n <= length; n++) {
                Update update = updateAt(n);
                if (update != null && update.client == client && update.request == request) {
                    return n;
                }
            }
            return NONE;
        }

        int cleanVersion(int key) {
            for (int n = settled; n >= 1; n--) {
                if (isOfKey(n, key)) {
                    return n;
                }
            }
            return 0;
        }

        int versionAt(int key, int ahead) {
            int found = cleanVersion(key);
            int place = 0;
            for (int n = settled + 1; n <= length && place < ahead; n++) {
                if (isOfKey(n, key)) {
                    found = n;
                    place++;
                }
            }
            return found;
        }

        boolean isClean(int key) {
            for (int n = settled + 1; n <= length; n++) {
                if (isOfKey(n, key)) {
                    return false;
                }
            }
            return true;
        }

        boolean hasVersion(int key, int n) {
            return n == cleanVersion(key) || (n > settled && isOfKey(n, key));
        }
    }

    /** A client; of its requests only the latest matters. */
    private static final class Client {
        int state = NO_REQUEST;
        int writes;
        int key;
        int written;
        int waitsAt = NONE;
        int doneNumber;
        int doneValue;

        boolean isUnderWay() {
            return state == WRITING || state == READING;
        }

        boolean isDone() {
            return state == WRITTEN || state == HAS_READ;
        }

        boolean isReadingAt(int node) {
            return state == READING && waitsAt == node;
        }

        void beginWrite(int key, int value) {
            state = WRITING;
            writes++;
            this.key = key;
            written = value;
        }

        void beginRead(int key) {
            state = READING;
            waitsAt = NONE;
            this.key = key;
        }

        void finish(int doneState, int n, int value) {
            state = doneState;
            doneNumber = n;
            doneValue = value;
        }
    }
}
