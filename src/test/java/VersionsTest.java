/** Promises 16 to 19: length, settled, version, look. */
public final class VersionsTest {
    private static final Check CHECK = new Check("versions");

    private static ChainVersions mixed() {
        ChainVersions x = new ChainVersions(2);
        Chains.writes(x, 1, 2);
        x.put(0, 1, 30);
        x.put(1, 2, 40);
        x.put(2, 1, 50);
        return x;
    }

    private static void lengthAndSettled() {
        ChainVersions x = mixed();
        CHECK.due("length 0", x.length(0), 5);
        CHECK.due("settled 0", x.settled(0), 2);
        CHECK.due("length 1", x.length(1), 2);
        CHECK.due("settled 1", x.settled(1), 2);
        x.deliver(0, 1);
        CHECK.due("length 1", x.length(1), 3);
        CHECK.due("settled 1", x.settled(1), 3);
        CHECK.due("settled 0", x.settled(0), 2);
        x.deliver(1, 0);
        CHECK.due("settled 0", x.settled(0), 3);
        int[] wrong = {-1, 2, 6, Integer.MIN_VALUE, Integer.MAX_VALUE};
        for (int node : wrong) {
            CHECK.due("length " + node, x.length(node), -1);
            CHECK.due("settled " + node, x.settled(node), -1);
        }
    }

    private static void places() {
        ChainVersions x = mixed();
        int[][] due = {{1, 0, 2, 2}, {1, 1, 3, 30}, {1, 2, 5, 50}, {1, 3, 5, 50}, {1, Integer.MAX_VALUE, 5, 50},
            {2, 0, 0, 0}, {2, 1, 4, 40}, {2, 2, 4, 40}, {0, 0, 0, 0}, {0, 1, 0, 0}, {3, Integer.MAX_VALUE, 0, 0}};
        for (int[] d : due) {
            CHECK.due("version(0, " + d[0] + ", " + d[1] + ")", x.version(0, d[0], d[1]), d[2]);
            CHECK.due("look(0, " + d[0] + ", " + d[1] + ")", x.look(0, d[0], d[1]), d[3]);
        }
        CHECK.due("tail", x.version(1, 1, 5), 2);
        CHECK.due("tail", x.look(1, 1, 5), 2);
        Chains.quiet(x);
        CHECK.due("all settled", x.version(0, 1, 0), 5);
        CHECK.due("all settled", x.look(0, 1, 0), 50);
        CHECK.due("all settled", x.look(1, 2, 0), 40);
    }

    private static void refused() {
        ChainVersions x = mixed();
        int[][] wrong = {{-1, 1, 0}, {2, 1, 0}, {6, 1, 0}, {Integer.MAX_VALUE, 1, 0}, {0, -1, 0}, {0, 4, 0},
            {0, Integer.MIN_VALUE, 0}, {0, 1, -1}, {0, 1, Integer.MIN_VALUE}};
        for (int[] w : wrong) {
            String call = "(" + w[0] + ", " + w[1] + ", " + w[2] + ")";
            CHECK.due("version" + call, x.version(w[0], w[1], w[2]), -1);
            CHECK.due("look" + call, x.look(w[0], w[1], w[2]), 0);
        }
    }

    private static void hundred() {
        ChainVersions x = new ChainVersions(3);
        Chains.writes(x, 3, 100);
        for (int node = 0; node < 3; node++) {
            CHECK.due("length", x.length(node), 100);
            CHECK.due("settled", x.settled(node), 100);
            CHECK.due("version", x.version(node, 3, 0), 100);
            CHECK.due("look", x.look(node, 3, 1), 100);
        }
        CHECK.due("join", x.join(), 3);
        Chains.adoptAll(x);
        CHECK.due("a copy of hundred", x.length(3), 100);
        CHECK.due("a copy of hundred", x.settled(3), 100);
        CHECK.due("a copy of hundred", x.look(3, 3, 0), 100);
    }

    public static void main(String[] args) {
        lengthAndSettled();
        places();
        refused();
        hundred();
        CHECK.end();
    }
}
