import java.util.ArrayList;
import java.util.List;
import java.util.Map;

/**
 * Shows that a call changes nothing, as far as the other calls can show: an object with the call and one without it
 * answer alike, at once and in each of several futures.
 */
final class Unchanged {
    /** A call on an object; a boolean answer counts 1 or 0. */
    interface Call {
        int on(Counted x);
    }

    private static final String[] FUTURES = {"at once", "when all is delivered", "when the clients go on",
        "when the master's clock goes on", "when a node joins", "when nodes stop"};
    private static final int MOST_ROUNDS = 12;

    private Unchanged() {
    }

    /** The call answers as due in that state, and changes nothing. */
    static void due(Check check, String call, Starts.Start start, Call changesNothing, int want) {
        for (int future = 0; future < FUTURES.length; future++) {
            Counted with = start.make();
            check.due(call, changesNothing.on(with), want);
            check.same(call + ", " + FUTURES[future], history(with, future), history(start.make(), future));
        }
    }

    /** The call answers so in every state, and changes nothing in any. */
    static void everywhere(Check check, String call, Call changesNothing, int want) {
        for (Map.Entry<String, Starts.Start> start : Starts.all().entrySet()) {
            due(check, call + " (" + start.getKey() + ")", start.getValue(), changesNothing, want);
        }
    }

    /** The call answers as due in that state, and changes nothing at the nodes; its client may be another one then. */
    static void atNodes(Check check, String call, Starts.Start start, Call sparesNodes, int want) {
        Counted with = start.make();
        Counted without = start.make();
        check.due(call, sparesNodes.on(with), want);
        check.same(call + ", at the nodes", Picture.ofNodes(with), Picture.ofNodes(without));
        settle(with, new ArrayList<>());
        settle(without, new ArrayList<>());
        check.same(call + ", at the nodes later", Picture.ofNodes(with), Picture.ofNodes(without));
    }

    private static List<String> history(Counted x, int future) {
        List<String> said = new ArrayList<>();
        switch (future) {
            case 1 -> deliverAll(x, said);
            case 2 -> clientsGoOn(x, said);
            case 3 -> {
                said.add("tick " + x.tick());
                said.add("tick " + x.tick());
                settle(x, said);
            }
            case 4 -> {
                said.add("join " + x.join());
                settle(x, said);
            }
            case 5 -> nodesStop(x, said);
            default -> { }
        }
        said.addAll(Picture.of(x));
        return said;
    }

    private static void deliverAll(Counted x, List<String> said) {
        boolean moved = true;
        for (int round = 0; round < MOST_ROUNDS && moved; round++) {
            moved = false;
            for (int from = 0; from < x.made(); from++) {
                for (int to = 0; to < x.made(); to++) {
                    moved |= from != to && drain(x, from, to, said);
                }
            }
        }
    }

    private static boolean drain(Counted x, int from, int to, List<String> said) {
        boolean moved = false;
        int kind = x.deliver(from, to);
        while (kind > ChainVersions.EMPTY) {
            said.add("deliver(" + from + ", " + to + ") " + kind);
            moved = true;
            kind = x.deliver(from, to);
        }
        said.add("deliver(" + from + ", " + to + ") " + kind);
        return moved;
    }

    private static void clientsGoOn(Counted x, List<String> said) {
        for (int c = 0; c < 3; c++) {
            said.add("retry(" + c + ", 0) " + x.retry(c, 0));
        }
        for (int c = 0; c < 3; c++) {
            said.add("get(" + c + ", 0, 1) " + x.get(c, 0, 1));
            said.add("put(" + c + ", 2, 77) " + x.put(c, 2, 77));
            said.add("retry(" + c + ", 2) " + x.retry(c, 2));
        }
    }

    /** A tick, then every node adopts what is newest, and what can be delivered is. */
    private static void settle(Counted x, List<String> said) {
        said.add("tick " + x.tick());
        for (int node = 0; node < x.made(); node++) {
            said.add("adopt(" + node + ") " + x.adopt(node));
        }
        deliverAll(x, said);
    }

    private static void nodesStop(Counted x, List<String> said) {
        for (int node = 0; node < x.made(); node++) {
            said.add("stop(" + node + ") " + x.stop(node));
        }
        said.add("tick " + x.tick());
        said.add("tick " + x.tick());
        settle(x, said);
        clientsGoOn(x, said);
    }
}
