import java.util.LinkedHashMap;
import java.util.Map;

/** States of many kinds; each method makes the same one anew whenever it is called. */
final class Starts {
    /** Makes a state. */
    interface Start {
        Counted make();
    }

    private Starts() {
    }

    static Map<String, Start> all() {
        Map<String, Start> all = new LinkedHashMap<>();
        all.put("fresh", Starts::fresh);
        all.put("alone", Starts::alone);
        all.put("under way", Starts::underWay);
        all.put("all done", Starts::allDone);
        all.put("changing", Starts::changing);
        all.put("left alone", Starts::leftAlone);
        all.put("full", Starts::full);
        all.put("hundred", Starts::hundred);
        all.put("six", Starts::six);
        return all;
    }

    static Counted fresh() {
        return new Counted(3);
    }

    static Counted alone() {
        return new Counted(1);
    }

    /** Clients 0 and 1 write, client 2 reads key 1 at node 1; messages wait from 0 to 1 and from 1 to 2. */
    static Counted underWay() {
        Counted x = new Counted(3);
        x.put(0, 1, 50);
        x.deliver(0, 1);
        x.put(1, 2, 60);
        x.get(2, 1, 1);
        return x;
    }

    /** Clients 0 and 1 wrote, client 2 read; no message waits. */
    static Counted allDone() {
        Counted x = new Counted(2);
        x.put(0, 1, 50);
        x.put(1, 2, 60);
        Chains.quiet(x);
        x.get(2, 1, 1);
        return x;
    }

    /**
     * As underWay; then node 0 stopped, which is silent for a tick; node 1 is in epoch 2, node 2 in epoch 1, and
     * node 3 has joined and is not ready.
     */
    static Counted changing() {
        Counted x = underWay();
        x.join();
        x.adopt(1);
        x.stop(0);
        x.tick();
        return x;
    }

    /**
     * The head of two nodes stopped, where a read waits; what it sent still waits, two updates and a query. The other
     * node is the last that is ready.
     */
    static Counted leftAlone() {
        Counted x = new Counted(2);
        x.put(0, 1, 50);
        x.put(1, 2, 60);
        x.get(2, 0, 1);
        x.stop(0);
        return x;
    }

    /** The head has eight open updates; the write of client 1 found it full. */
    static Counted full() {
        Counted x = Chains.withOpen(8);
        x.put(1, 0, 90);
        return x;
    }

    /** One node that holds a hundred updates, all settled; the write of client 1 found it full. */
    static Counted hundred() {
        Counted x = new Counted(1);
        Chains.writes(x, 2, 100);
        x.put(1, 0, 101);
        return x;
    }

    /** Six nodes, all ready and of the newest epoch; one update is open but for the tail, where it is settled. */
    static Counted six() {
        Counted x = new Counted(1);
        while (x.made() < 6) {
            x.join();
        }
        for (int node = 0; node < 5; node++) {
            x.adopt(node);
        }
        Chains.along(x, 0, 1, 2, 3, 4, 5, 4, 3, 2, 1, 0);
        x.put(0, 3, 70);
        Chains.along(x, 0, 1, 2, 3, 4, 5);
        return x;
    }
}
