/**
 * The sentences of the document on the difference of two versions, one by one: calls at each boundary
 * that a sentence names and on both sides of it. After a refused call all that can be seen is as it was.
 */
public final class SentencesOnDifferencesTest {
    private static Trial t;

    public static void main(String[] args) throws Exception {
        t = new Trial("SentencesOnDifferencesTest", "THE DIFFERENCE");
        differenceCreates();
        differenceSets();
        keptPairs();
        splicesBetweenPairs();
        t.end("TO APPLY");
    }

    private static int[] row(int... items) {
        return items;
    }

    private static void differenceCreates() {
        t.part("DIFFERENCE");
        t.sentence("THE DIFFERENCE of version a to version b is this delta:"
            + " a CREATE for each object that b has and a has not.");
        // Version 0 has the root alone, 1 a LIST as well, 2 a RECORD instead.
        t.given("node true", "node false", "snapshot", "link 0 0 1", "snapshot", "link 0 0 2", "snapshot");
        t.is(0, "diff 0 0", "diff 1 1", "diff 2 2");
        t.isDelta();
        t.is(2, "diff 0 1");
        t.isDelta("1 1 1", "2 0 0 2 1");
        t.is(2, "diff 0 2");
        t.isDelta("1 2 0", "2 0 0 2 2");
        t.is(2, "diff 2 1");
        t.isDelta("1 1 1", "2 0 0 2 1");
        // What a has and b has not is not told.
        t.is(1, "diff 1 0");
        t.isDelta("2 0 0 0 0");
        // All the objects that there can be, but the root.
        t.given(Starts.joined(new String[] {"snapshot"}, Starts.joined(Starts.TREE, "snapshot")));
        t.is(30, "diff 0 1");
        for (int o = 1; o < 16; o++) {
            t.is(1L, "operation " + (o - 1) + " 0");
            t.is((long) o, "operation " + (o - 1) + " 1");
            t.is(o > 4 ? 1L : 0L, "operation " + (o - 1) + " 2");
        }
        t.is(2L, "operation 15 0");
        t.is(3, "diff 1 0");
    }

    private static void differenceSets() {
        t.part("DIFFERENCE");
        t.sentence("For each RECORD of b, a SET for each slot that does not hold the same as in a"
            + " (or does not hold NOTHING, if a has not that object).");
        // Slot 0 stays; 1 and 2 change to the int next to it.
        t.given("put 0 0 5", "put 0 1 5", "put 0 2 MIN", "snapshot", "put 0 1 6", "put 0 2 MAX", "snapshot");
        t.is(2, "diff 0 1");
        t.isDelta("2 0 1 1 6", "2 0 2 1 2147483647");
        t.is(2, "diff 1 0");
        t.isDelta("2 0 1 1 5", "2 0 2 1 -2147483648");
        // NOTHING, the int 0 and the reference to 0 are three different contents.
        t.given("snapshot", "put 0 0 0", "snapshot", "link 0 0 0", "snapshot");
        t.is(1, "diff 0 1");
        t.isDelta("2 0 0 1 0");
        t.is(1, "diff 1 0");
        t.isDelta("2 0 0 0 0");
        t.is(1, "diff 1 2");
        t.isDelta("2 0 0 2 0");
        t.is(1, "diff 2 1");
        t.isDelta("2 0 0 1 0");
        t.is(1, "diff 0 2");
        t.isDelta("2 0 0 2 0");
        t.is(1, "diff 2 0");
        t.isDelta("2 0 0 0 0");
        // References to other objects; a new RECORD with an int 0, with NOTHING, and with no SET at all.
        t.given("node false", "node false", "link 0 0 1", "snapshot", "link 0 0 2", "put 2 0 0", "snapshot",
            "link 0 1 1", "snapshot");
        t.is(3, "diff 0 1");
        t.isDelta("1 2 0", "2 0 0 2 2", "2 2 0 1 0");
        t.is(2, "diff 1 2");
        t.isDelta("1 1 0", "2 0 1 2 1");
        // All slots of a RECORD at once, and of the last object that there can be.
        t.given(Starts.joined(Starts.TREE, "snapshot"));
        t.is(true, "link 4 0 15", "link 4 1 13", "link 4 2 14");
        t.is(1, "snapshot");
        t.is(3, "diff 0 1");
        t.isDelta("2 4 0 2 15", "2 4 1 2 13", "2 4 2 2 14");
        t.given();
        for (int o = 1; o < 16; o++) {
            t.is(o, "node false");
        }
        t.is(true, "link 0 0 15");
        t.is(0, "snapshot");
        t.is(true, "put 15 0 1", "put 15 1 2", "link 15 2 15");
        t.is(1, "snapshot");
        t.is(3, "diff 0 1");
        t.isDelta("2 15 0 1 1", "2 15 1 1 2", "2 15 2 2 15");
    }

    /** The difference of two rows of LIST 1. */
    private static void isDifference(int[] old, int[] now, String... splices) {
        t.given(Starts.rows(old, now));
        t.is(splices.length, "diff 1 2");
        t.isDelta(splices);
        t.is(3, "apply 1");
        t.is(true, "same 2 3");
    }

    private static void keptPairs() {
        t.part("DIFFERENCE");
        t.sentence("For each LIST of b, with its items in a as the old row (no items, if a has it not) and those in b as"
            + " the new row: pairs (i, j) of places of the old and the new row with equal items are KEPT, with rising i"
            + " and rising j, as many as possible; of several choices, compared pair by pair, the first pair that differs"
            + " has the lesser i, or with equal i the lesser j.");
        // No pair, all pairs.
        isDifference(row(), row());
        isDifference(row(1), row(2), "3 1 0 1 1 2");
        isDifference(row(7), row(7));
        isDifference(row(1, 2, 3, 4, 5, 6), row(1, 2, 3, 4, 5, 6));
        isDifference(row(1, 2, 3, 4, 5, 6), row(7, 8, 9, 10, 11, 12), "3 1 0 6 6 7 8 9 10 11 12");
        // A LIST that a has not has no items there, not even those it has in the live graph.
        t.given("node true", "insert 1 0 8", "insert 1 1 9", "snapshot", "link 0 0 1", "snapshot", "remove 1 0", "remove 1 0",
            "snapshot");
        t.is(3, "diff 0 1");
        t.isDelta("1 1 1", "2 0 0 2 1", "3 1 0 0 2 8 9");
        t.is(2, "diff 0 2");
        t.isDelta("1 1 1", "2 0 0 2 1");
        // As many as possible, though the choice with fewer has the lesser i, or the lesser j.
        isDifference(row(1, 2, 3), row(2, 3, 1), "3 1 0 1 0", "3 1 3 0 1 1");
        isDifference(row(2, 3, 1), row(1, 2, 3), "3 1 0 0 1 1", "3 1 2 1 0");
        // Of (0, 1) and (1, 0) the lesser i; of (0, 0), (0, 1), (0, 2) the lesser j; of (0, 0), (1, 0) the lesser i.
        isDifference(row(1, 2), row(2, 1), "3 1 0 0 1 2", "3 1 1 1 0");
        isDifference(row(5), row(5, 5, 5), "3 1 1 0 2 5 5");
        isDifference(row(5, 5, 5), row(5), "3 1 1 2 0");
        // What is left of both rows behind a pair counts for nothing.
        isDifference(row(1, 2, 3), row(2, 1), "3 1 0 0 1 2", "3 1 1 2 0");
        isDifference(row(1, 2, 3), row(2, 5, 1), "3 1 0 0 2 2 5", "3 1 1 2 0");
        // The same for the second pair, behind an equal first one.
        isDifference(row(9, 1, 2), row(9, 2, 1), "3 1 1 0 1 2", "3 1 2 1 0");
        isDifference(row(9, 5), row(9, 5, 5), "3 1 2 0 1 5");
        isDifference(row(9, 5, 5), row(9, 5), "3 1 2 1 0");
        // With rising i and j: only one of two pairs that cross is kept, in rows as long as they can be.
        isDifference(row(1, 2, 3, 4, 5, 6), row(6, 2, 3, 4, 5, 1), "3 1 0 1 1 6", "3 1 5 1 1 1");
        isDifference(row(1, 1, 1, 2, 2, 2), row(2, 2, 2, 1, 1, 1), "3 1 0 0 3 2 2 2", "3 1 3 3 0");
        isDifference(row(-2147483648, 2147483647), row(2147483647, -2147483648),
            "3 1 0 0 1 2147483647", "3 1 1 1 0");
    }

    private static void splicesBetweenPairs() {
        t.part("DIFFERENCE");
        t.sentence("Between two kept pairs that follow one another (and before the first one, and behind the last one) a"
            + " SPLICE deletes what the old row has there and inserts what the new row has there, if there is anything of"
            + " either; its at is the place in the old row.");
        // Deletes alone, inserts alone, and both, at each of the three kinds of place.
        isDifference(row(1, 2), row(2), "3 1 0 1 0");
        isDifference(row(2), row(1, 2), "3 1 0 0 1 1");
        isDifference(row(1, 2), row(3, 2), "3 1 0 1 1 3");
        isDifference(row(1, 2, 3), row(1, 3), "3 1 1 1 0");
        isDifference(row(1, 3), row(1, 2, 3), "3 1 1 0 1 2");
        isDifference(row(1, 2, 3), row(1, 4, 3), "3 1 1 1 1 4");
        isDifference(row(1, 2), row(1), "3 1 1 1 0");
        isDifference(row(1), row(1, 2), "3 1 1 0 1 2");
        isDifference(row(1, 2), row(1, 3), "3 1 1 1 1 3");
        // The rows that are empty, and the full ones.
        isDifference(row(), row(1, 2, 3, 4, 5, 6), "3 1 0 0 6 1 2 3 4 5 6");
        isDifference(row(1, 2, 3, 4, 5, 6), row(), "3 1 0 6 0");
        isDifference(row(1, 2, 3, 4, 5, 6), row(1, 2, 3, 4, 5, 7), "3 1 5 1 1 7");
        isDifference(row(1, 2, 3, 4, 5), row(1, 2, 3, 4, 5, 6), "3 1 5 0 1 6");
        isDifference(row(1), row(8, 8, 8, 8, 8, 1), "3 1 0 0 5 8 8 8 8 8");
        isDifference(row(1), row(1, 8, 8, 8, 8, 8), "3 1 1 0 5 8 8 8 8 8");
        // Places are those of the old row, whatever was inserted before; as many SPLICEs as there can be.
        isDifference(row(1, 2, 3), row(7, 1, 8, 2, 9, 3), "3 1 0 0 1 7", "3 1 1 0 1 8", "3 1 2 0 1 9");
        isDifference(row(1, 2, 3, 4, 5, 6), row(2, 4, 6), "3 1 0 1 0", "3 1 2 1 0", "3 1 4 1 0");
        isDifference(row(9, 1, 9, 2, 9, 3), row(1, 8, 2, 8, 3, 8), "3 1 0 1 0", "3 1 2 1 1 8", "3 1 4 1 1 8", "3 1 6 0 1 8");
        isDifference(row(1, 2, 9, 3, 4), row(7, 1, 2, 3, 8, 4), "3 1 0 0 1 7", "3 1 2 1 0", "3 1 4 0 1 8");
    }
}
