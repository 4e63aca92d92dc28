import java.util.Random;

/** Differences and merges of many rows of items, as the model gives them. */
public final class ListsTest {
    private static final Checks CHECKS = new Checks("ListsTest");
    private static final int LETTERS = 3;
    private static final int LONGEST = 4;
    private static final int LONGER_PAIRS = 6000;
    private static final int MERGES = 30000;

    public static void main(String[] args) {
        allPairsOfShortRows();
        pairsOfLongerRows();
        merges();
        CHECKS.end();
    }

    private static int[] row(int length, int number) {
        int[] row = new int[length];
        int rest = number;
        for (int k = 0; k < length; k++) {
            row[k] = rest % LETTERS;
            rest /= LETTERS;
        }
        return row;
    }

    private static int rowsOf(int length) {
        int rows = 1;
        for (int k = 0; k < length; k++) {
            rows *= LETTERS;
        }
        return rows;
    }

    private static void allPairsOfShortRows() {
        for (int n = 0; n <= LONGEST; n++) {
            for (int m = 0; m <= LONGEST; m++) {
                for (int p = 0; p < rowsOf(n); p++) {
                    for (int q = 0; q < rowsOf(m) && CHECKS.wrong() < 20; q++) {
                        new Pair().look(row(n, p), row(m, q));
                    }
                }
            }
        }
    }

    private static int[] randomRow(Random random, int letters) {
        int[] row = new int[random.nextInt(7)];
        for (int k = 0; k < row.length; k++) {
            row[k] = random.nextInt(letters);
        }
        return row;
    }

    private static void pairsOfLongerRows() {
        Random random = new Random(1);
        for (int k = 0; k < LONGER_PAIRS && CHECKS.wrong() < 20; k++) {
            int letters = 2 + random.nextInt(5);
            new Pair().look(randomRow(random, letters), randomRow(random, letters));
        }
    }

    /** A row that comes from another one by a few changes, so that merges without conflicts are not rare. */
    private static int[] changedRow(Random random, int[] row) {
        StringBuilder text = new StringBuilder();
        for (int v : row) {
            text.append((char) v);
        }
        for (int k = random.nextInt(3); k >= 0; k--) {
            int at = random.nextInt(text.length() + 1);
            if (text.length() < 6 && random.nextBoolean()) {
                text.insert(at, (char) random.nextInt(8));
            } else if (at < text.length()) {
                text.deleteCharAt(at);
            }
        }
        return text.chars().toArray();
    }

    private static void merges() {
        Random random = new Random(2);
        for (int k = 0; k < MERGES && CHECKS.wrong() < 20; k++) {
            int[] z = randomRow(random, 8);
            int[] z2 = randomRow(random, 8);
            new Pair().lookAtMerge(new int[][] {z, changedRow(random, z), changedRow(random, z)},
                new int[][] {z2, changedRow(random, z2), changedRow(random, z2)});
        }
    }

    /** The class and the model, with two LISTs, side by side. */
    private static final class Pair {
        private final GraphDeltas real = new GraphDeltas();
        private final Model model = new Model();
        private String title = "";

        Pair() {
            for (int o = 1; o <= 2; o++) {
                real.node(true);
                model.node(true);
                real.link(0, o, o);
                model.link(0, o, o);
            }
        }

        private void write(int o, int[] row) {
            while (model.kind(o) > 1) {
                due("remove", real.remove(o, 0) ? 1 : 0, model.remove(o, 0) ? 1 : 0);
            }
            for (int k = 0; k < row.length; k++) {
                due("insert", real.insert(o, k, row[k]) ? 1 : 0, model.insert(o, k, row[k]) ? 1 : 0);
            }
            title += java.util.Arrays.toString(row);
        }

        private void due(String call, long got, long want) {
            CHECKS.due(title + " " + call, got, want);
        }

        private void version(int[] row, int[] other) {
            write(1, row);
            write(2, other);
            due("snapshot", real.snapshot(), model.snapshot());
        }

        void look(int[] a, int[] b) {
            version(a, new int[0]);
            version(b, new int[0]);
            due("diff", real.diff(0, 1), model.diff(0, 1));
            lookAtDelta();
            due("apply", real.apply(0), model.apply(0));
            due("same", real.same(1, 2) ? 1 : 0, 1);
        }

        void lookAtMerge(int[][] rows, int[][] others) {
            for (int v = 0; v < 3; v++) {
                version(rows[v], others[v]);
            }
            int conflicts = model.merge(0, 1, 2);
            due("merge", real.merge(0, 1, 2), conflicts);
            for (int k = 0; k <= conflicts; k++) {
                due("conflict", real.conflict(k), model.conflict(k));
            }
            lookAtDelta();
            int applied = model.apply(0);
            due("apply", real.apply(0), applied);
            if (applied >= 0) {
                lookAtItems(applied);
            }
        }

        private void lookAtDelta() {
            for (int k = 0; k <= model.deltaSize(); k++) {
                for (int w = 0; w < 12; w++) {
                    due("operation", real.operation(k, w), model.operation(k, w));
                }
            }
        }

        private void lookAtItems(int v) {
            due("restore", real.restore(v) ? 1 : 0, model.restore(v) ? 1 : 0);
            for (int o = 1; o <= 2; o++) {
                due("kind", real.kind(o), model.kind(o));
                for (int k = 0; k < 6; k++) {
                    due("value", real.value(o, k), model.value(o, k));
                }
            }
        }
    }
}
