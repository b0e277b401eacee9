/** Promises 16 to 19: length, settled, version, look. */
public final class VersionsTest {
    private static final Check CHECK = new Check("versions");

    private static Counted mixed() {
        Counted x = new Counted(2);
        Chains.writes(x, 1, 2);
        x.put(0, 1, 30);
        x.put(1, 2, 40);
        x.put(2, 1, 50);
        return x;
    }

    private static void lengthAndSettled() {
        Counted x = mixed();
        CHECK.due("length 0", x.length(0), 5);
        CHECK.due("settled 0", x.settled(0), 2);
        CHECK.due("length 1", x.length(1), 2);
        CHECK.due("settled 1", x.settled(1), 2);
        x.deliver(0, 1);
        CHECK.due("length 1", x.length(1), 3);
        CHECK.due("settled 1", x.settled(1), 3);
        CHECK.due("settled 0", x.settled(0), 2);
        x.deliver(1, 0);
        CHECK.due("settled 0", x.settled(0), 3);
    }

    /** "-1 if there is no living and ready node of that number"; "0 if that is -1". */
    private static void noNode() {
        int[] wrong = {-1, 6, Integer.MIN_VALUE, Integer.MAX_VALUE};
        for (int node : wrong) {
            Unchanged.everywhere(CHECK, "length " + node, x -> x.length(node), -1);
            Unchanged.everywhere(CHECK, "settled " + node, x -> x.settled(node), -1);
            Unchanged.everywhere(CHECK, "version at " + node, x -> x.version(node, 1, 0), -1);
            Unchanged.everywhere(CHECK, "look at " + node, x -> x.look(node, 1, 0), 0);
        }
        int[] nodes = {0, 3, 4, 5};
        String[] why = {" (stopped)", " (not ready)", " (not made)", " (not made)"};
        for (int i = 0; i < nodes.length; i++) {
            int node = nodes[i];
            Unchanged.due(CHECK, "length " + node + why[i], Starts::changing, x -> x.length(node), -1);
            Unchanged.due(CHECK, "settled " + node + why[i], Starts::changing, x -> x.settled(node), -1);
            Unchanged.due(CHECK, "version at " + node + why[i], Starts::changing, x -> x.version(node, 1, 1), -1);
            Unchanged.due(CHECK, "look at " + node + why[i], Starts::changing, x -> x.look(node, 1, 1), 0);
        }
        CHECK.due("length of node 5 of six", Starts.six().length(5), 1);
    }

    /** The same node before and after it stops, and before and after it is ready. */
    private static void livingAndReady() {
        Counted x = Starts.allDone();
        answers("living", x, 0, 2, 2);
        x.stop(0);
        answers("stopped", x, 0, -1, -1);
        x.join();
        x.adopt(1);
        answers("not ready", x, 2, -1, -1);
        CHECK.due("copy", x.deliver(1, 2), ChainVersions.COPY);
        answers("ready", x, 2, 2, 2);
    }

    private static void answers(String when, Counted x, int node, int length, int settled) {
        CHECK.due(when + ": length", x.length(node), length);
        CHECK.due(when + ": settled", x.settled(node), settled);
        CHECK.due(when + ": version", x.version(node, 1, 0), length < 0 ? -1 : 1);
        CHECK.due(when + ": look", x.look(node, 1, 0), length < 0 ? 0 : 50);
    }

    /** "of the last one, if there are not so many": with none and with eight open updates of the key. */
    private static void lastPlace() {
        Counted x = new Counted(2);
        CHECK.due("no update", x.version(0, 1, 0), 0);
        CHECK.due("no update", x.version(0, 1, 1), 0);
        for (int i = 1; i <= 8; i++) {
            x.put(0, 1, 10 * i);
            x.deliver(0, 1);
        }
        for (int ahead = 0; ahead <= 8; ahead++) {
            CHECK.due("version " + ahead, x.version(0, 1, ahead), ahead);
            CHECK.due("look " + ahead, x.look(0, 1, ahead), 10 * ahead);
        }
        CHECK.due("one too many", x.version(0, 1, 9), 8);
        CHECK.due("one too many", x.look(0, 1, 9), 80);
        CHECK.due("all settled there", x.version(1, 1, 1), 8);
        x.deliver(1, 0);
        CHECK.due("one settled", x.version(0, 1, 0), 1);
        CHECK.due("seven open", x.version(0, 1, 7), 8);
        CHECK.due("one too many", x.version(0, 1, 8), 8);
    }

    /** Values that look like answers of refused calls. */
    private static void valuesLikeNone() {
        Counted x = new Counted(1);
        x.put(0, 1, -1);
        x.put(0, 2, 0);
        CHECK.due("value -1", x.look(0, 1, 0), -1);
        CHECK.due("value 0", x.look(0, 2, 0), 0);
        CHECK.due("its number", x.version(0, 2, 0), 2);
    }

    private static void places() {
        Counted x = mixed();
        int[][] due = {{1, 0, 2, 2}, {1, 1, 3, 30}, {1, 2, 5, 50}, {1, 3, 5, 50}, {1, Integer.MAX_VALUE, 5, 50},
            {2, 0, 0, 0}, {2, 1, 4, 40}, {2, 2, 4, 40}, {0, 0, 0, 0}, {0, 1, 0, 0}, {3, Integer.MAX_VALUE, 0, 0}};
        for (int[] d : due) {
            CHECK.due("version(0, " + d[0] + ", " + d[1] + ")", x.version(0, d[0], d[1]), d[2]);
            CHECK.due("look(0, " + d[0] + ", " + d[1] + ")", x.look(0, d[0], d[1]), d[3]);
        }
        CHECK.due("tail", x.version(1, 1, 5), 2);
        CHECK.due("tail", x.look(1, 1, 5), 2);
        Chains.quiet(x);
        CHECK.due("all settled", x.version(0, 1, 0), 5);
        CHECK.due("all settled", x.look(0, 1, 0), 50);
        CHECK.due("all settled", x.look(1, 2, 0), 40);
    }

    /** "-1 if .. no such key, or ahead is below 0"; "0 if that is -1". */
    private static void noKeyOrPlace() {
        int[] keys = {-1, 4, Integer.MIN_VALUE, Integer.MAX_VALUE};
        for (int key : keys) {
            Unchanged.everywhere(CHECK, "version of key " + key, x -> x.version(1, key, 0), -1);
            Unchanged.everywhere(CHECK, "look of key " + key, x -> x.look(1, key, 0), 0);
        }
        int[] places = {-1, -2, Integer.MIN_VALUE};
        for (int ahead : places) {
            Unchanged.everywhere(CHECK, "version, ahead " + ahead, x -> x.version(1, 1, ahead), -1);
            Unchanged.everywhere(CHECK, "look, ahead " + ahead, x -> x.look(1, 1, ahead), 0);
        }
        Unchanged.due(CHECK, "version, ahead -1", VersionsTest::mixed, x -> x.version(0, 1, -1), -1);
        Unchanged.due(CHECK, "look, ahead -1", VersionsTest::mixed, x -> x.look(0, 1, -1), 0);
        Unchanged.due(CHECK, "version, ahead 0", VersionsTest::mixed, x -> x.version(0, 1, 0), 2);
        Unchanged.due(CHECK, "look, ahead 0", VersionsTest::mixed, x -> x.look(0, 1, 0), 2);
        Unchanged.due(CHECK, "length", VersionsTest::mixed, x -> x.length(0), 5);
        Unchanged.due(CHECK, "settled", VersionsTest::mixed, x -> x.settled(0), 2);
    }

    /** A hundred updates go down and up a chain of three, and the last answer is that of the 512th call. */
    private static void hundred() {
        Counted x = new Counted(3);
        for (int i = 1; i <= 100; i++) {
            x.put(0, 3, i);
            Chains.along(x, 0, 1, 2, 1, 0);
        }
        for (int node = 0; node < 3; node++) {
            CHECK.due("length", x.length(node), 100);
            CHECK.due("settled", x.settled(node), 100);
            CHECK.due("version", x.version(node, 3, 0), 100);
            CHECK.due("look", x.look(node, 3, 1), 100);
        }
        CHECK.due("calls", x.calls(), Counted.MOST_CALLS);
    }

    public static void main(String[] args) {
        lengthAndSettled();
        noNode();
        livingAndReady();
        places();
        lastPlace();
        valuesLikeNone();
        noKeyOrPlace();
        hundred();
        CHECK.end();
    }
}
