import java.util.ArrayList;
import java.util.Arrays;
import java.util.List;

/** Runs of calls that tests begin with. */
final class Starts {
    static final String[] NEW = {};

    /**
     * Has some of everything: versions 0 to 2, conflicts, a delta, a draft that is not its bytes. The
     * live graph has the RECORDs 0 and 2, LIST 1 with three items, LIST 3 with six and LIST 5 with
     * none; object 4 is made but not in it; 6 and on are not made.
     */
    static final String[] RICH = {
        "node true", "node false", "node true", "node false",
        "link 0 0 1", "link 0 1 2", "link 2 0 3", "put 2 2 -7",
        "insert 1 0 10", "insert 1 1 11", "insert 1 2 12",
        "insert 3 0 30", "insert 3 1 31", "insert 3 2 32", "insert 3 3 33", "insert 3 4 34", "insert 3 5 35",
        "snapshot",
        "put 0 2 1", "remove 1 2", "insert 1 0 13", "snapshot",
        "restore 0", "put 0 2 2", "insert 1 0 14", "snapshot",
        "merge 0 1 2", "diff 0 1", "encode", "feed 255",
        "restore 1", "node true", "link 2 1 5", "put 0 2 99",
    };

    /** Five RECORDs, 0 to 4, whose slots refer to one another and to the LISTs 5 to 15: all are reached. */
    static final String[] TREE = tree();

    /** As many objects, versions and items of LIST 15 as there can be, with conflicts, a delta and a draft. */
    static final String[] FULL = joined(TREE,
        "insert 15 0 1", "insert 15 1 2", "insert 15 2 3", "insert 15 3 4", "insert 15 4 5", "insert 15 5 6",
        "snapshot", "insert 5 0 50", "put 4 0 7", "snapshot", "restore 0", "insert 5 0 51", "snapshot",
        "merge 0 1 2", "diff 0 1", "encode", "feed 0",
        "snapshot", "snapshot", "snapshot", "snapshot", "snapshot");

    private Starts() {
    }

    static String[] joined(String[] calls, String... more) {
        List<String> all = new ArrayList<>(Arrays.asList(calls));
        all.addAll(Arrays.asList(more));
        return all.toArray(new String[0]);
    }

    static int[] joined(int[] bytes, int... more) {
        int[] all = Arrays.copyOf(bytes, bytes.length + more.length);
        System.arraycopy(more, 0, all, bytes.length, more.length);
        return all;
    }

    private static String[] tree() {
        List<String> calls = new ArrayList<>();
        for (int o = 1; o < 16; o++) {
            calls.add("node " + (o > 4));
        }
        for (int o = 1; o < 16; o++) {
            calls.add("link " + (o - 1) / 3 + " " + (o - 1) % 3 + " " + o);
        }
        return calls.toArray(new String[0]);
    }

    /** The items of LIST o of the live graph, which has none yet. */
    static String[] items(int o, int... items) {
        List<String> calls = new ArrayList<>();
        for (int k = 0; k < items.length; k++) {
            calls.add("insert " + o + " " + k + " " + items[k]);
        }
        return calls.toArray(new String[0]);
    }

    /** LIST 1, to which slot 0 of the root refers, is empty in version 0 and has these rows in 1, 2, .. */
    static String[] rows(int[]... rows) {
        String[] calls = {"node true", "link 0 0 1", "snapshot"};
        for (int v = 0; v < rows.length; v++) {
            calls = joined(calls, "restore 0");
            calls = joined(calls, items(1, rows[v]));
            calls = joined(calls, "snapshot");
        }
        return calls;
    }
}
