import java.util.ArrayList;
import java.util.List;

/** All that the calls that only ask can show of an object. */
final class Picture {
    /** Eight open updates, the clean version and one place beyond. */
    private static final int MOST_PLACES = 10;

    private Picture() {
    }

    static List<String> of(Counted x) {
        List<String> lines = ofNodes(x);
        for (int c = 0; c < 3; c++) {
            lines.add("status(" + c + ") " + x.status(c));
            lines.add("number(" + c + ") " + x.number(c));
            lines.add("value(" + c + ") " + x.value(c));
        }
        return lines;
    }

    /** The same without the clients. */
    static List<String> ofNodes(Counted x) {
        List<String> lines = new ArrayList<>();
        members(x, lines);
        int nodes = Math.min(6, x.made() + 1);
        for (int node = 0; node < nodes; node++) {
            node(x, node, lines);
            for (int to = 0; to < nodes; to++) {
                lines.add("waiting(" + node + ", " + to + ") " + x.waiting(node, to));
            }
        }
        return lines;
    }

    private static void members(Counted x, List<String> lines) {
        int member = 0;
        for (int k = 0; k < 7 && member >= 0; k++) {
            member = x.member(k);
            lines.add("member(" + k + ") " + member);
        }
    }

    private static void node(Counted x, int node, List<String> lines) {
        int length = x.length(node);
        lines.add("epoch(" + node + ") " + x.epoch(node));
        lines.add("length(" + node + ") " + length);
        lines.add("settled(" + node + ") " + x.settled(node));
        for (int key = 0; key < 4 && length >= 0; key++) {
            versions(x, node, key, lines);
        }
    }

    private static void versions(Counted x, int node, int key, List<String> lines) {
        int before = -1;
        for (int ahead = 0; ahead < MOST_PLACES; ahead++) {
            String place = "(" + node + ", " + key + ", " + ahead + ") ";
            int number = x.version(node, key, ahead);
            lines.add("version" + place + number);
            if (number == before) {
                return;
            }
            lines.add("look" + place + x.look(node, key, ahead));
            before = number;
        }
    }
}
