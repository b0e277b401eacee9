import java.util.List;

/** Counts answers that are not as due, and ends a test with exit code 1 if there was one. */
final class Check {
    private final String name;
    private int checks = 0;
    private int wrong = 0;

    Check(String name) {
        this.name = name;
    }

    void due(String call, long got, long want) {
        checks++;
        if (got != want) {
            wrong++;
            System.out.println(name + ": " + call + " answered " + got + ", due is " + want);
        }
    }

    void due(String call, boolean got, boolean want) {
        due(call, got ? 1 : 0, want ? 1 : 0);
    }

    /** Two lists of what was asked and answered are the same; the first difference is told. */
    void same(String what, List<String> got, List<String> want) {
        checks++;
        if (got.equals(want)) {
            return;
        }
        wrong++;
        int i = 0;
        while (i < got.size() && i < want.size() && got.get(i).equals(want.get(i))) {
            i++;
        }
        System.out.println(name + ": " + what + ": " + (i < got.size() ? got.get(i) : "nothing") + ", due is "
            + (i < want.size() ? want.get(i) : "nothing"));
    }

    void end() {
        System.out.println(name + ": " + checks + " answers, " + wrong + " not as due");
        if (wrong != 0) {
            System.exit(1);
        }
    }
}
