/**
 * The sentences of the document on merging two versions over a third one, one by one: calls at each boundary
 * that a sentence names and on both sides of it. After a refused call all that can be seen is as it was.
 */
public final class SentencesOnMergingTest {
    private static final int MISFIT = -3;

    private static Trial t;

    public static void main(String[] args) throws Exception {
        t = new Trial("SentencesOnMergingTest", "TO MERGE");
        slotConflicts();
        listConflicts();
        mergedDeltas();
        t.end("BYTES of a delta");
    }

    private static int[] row(int... items) {
        return items;
    }

    /** Version 0, and what two runs of calls make of it in the versions 1 and 2. */
    private static void givenBranches(String[] base, String[] one, String[] other) {
        String[] calls = Starts.joined(base, "snapshot");
        calls = Starts.joined(calls, one);
        calls = Starts.joined(calls, "snapshot", "restore 0");
        calls = Starts.joined(calls, other);
        t.given(Starts.joined(calls, "snapshot"));
    }

    private static String[] calls(String... calls) {
        return calls;
    }

    private static void slotConflicts() {
        t.part("TO MERGE");
        t.sentence("TO MERGE versions x and y over version z: let dx be the difference of z to x, dy that of z to y."
            + " There is a CONFLICT at a slot when both SET it to different contents;");
        // Neither, one, both to the same, both to different contents.
        givenBranches(calls(), calls(), calls());
        t.is(0, "merge 0 1 2", "merge 0 0 0", "merge 1 2 1");
        givenBranches(calls(), calls("put 0 0 5"), calls());
        t.is(0, "merge 0 1 2", "merge 0 2 1");
        givenBranches(calls(), calls("put 0 0 5"), calls("put 0 1 6"));
        t.is(0, "merge 0 1 2", "merge 0 2 1");
        givenBranches(calls(), calls("put 0 0 5"), calls("put 0 0 5"));
        t.is(0, "merge 0 1 2", "merge 0 2 1");
        givenBranches(calls(), calls("put 0 0 5"), calls("put 0 0 6"));
        t.is(1, "merge 0 1 2", "merge 0 2 1");
        t.isConflicts(0);
        // One of them leaves it as it was: it does not SET it.
        givenBranches(calls("put 0 0 4"), calls("put 0 0 5"), calls("put 0 0 4"));
        t.is(0, "merge 0 1 2", "merge 0 2 1");
        // Over x, only y has changed; over y, only x.
        givenBranches(calls("put 0 0 4"), calls("put 0 0 5"), calls("put 0 0 6"));
        t.is(0, "merge 1 1 2", "merge 2 1 2");
        t.is(1, "merge 0 1 2");
        // The int 0, the reference to 0 and NOTHING are different contents.
        givenBranches(calls(), calls("put 0 2 0"), calls("link 0 2 0"));
        t.is(1, "merge 0 1 2", "merge 0 2 1");
        t.isConflicts(2);
        givenBranches(calls("put 0 2 9"), calls("put 0 2 0"), calls("link 0 2 -1"));
        t.is(1, "merge 0 1 2", "merge 0 2 1");
        givenBranches(calls("put 0 2 9"), calls("link 0 2 0"), calls("link 0 2 -1"));
        t.is(1, "merge 0 1 2", "merge 0 2 1");
        givenBranches(calls("put 0 2 9"), calls("link 0 2 -1"), calls("link 0 2 -1"));
        t.is(0, "merge 0 1 2", "merge 0 2 1");
        // The same slot of two RECORDs; a RECORD that both have created.
        String[] two = {"node false", "node false", "link 0 0 1", "link 0 1 2"};
        givenBranches(two, calls("put 1 0 5"), calls("put 2 0 6"));
        t.is(0, "merge 0 1 2", "merge 0 2 1");
        String[] lost = {"node false", "link 0 0 -1"};
        givenBranches(lost, calls("link 0 0 1", "put 1 1 5", "snapshot", "put 1 1 6"), calls());
        t.is(0, "merge 0 1 1", "merge 0 2 2");
        t.is(1, "merge 0 1 2", "merge 0 2 1");
        t.isConflicts(9);
    }

    /** How many conflicts there are when LIST 1 has these rows in the versions z, x and y. */
    private static void isMergeOf(int conflicts, int[] z, int[] x, int[] y) {
        t.given(Starts.rows(z, x, y));
        t.is(conflicts, "merge 1 2 3", "merge 1 3 2");
        t.isConflicts(conflicts == 0 ? row() : row(11));
    }

    private static void listConflicts() {
        t.part("TO MERGE");
        t.sentence("and at a LIST when there is a SPLICE of it in dx and one in dy, not the same (in at, deletes and"
            + " inserted ints), with places that overlap or touch: neither at is greater than at plus deletes of the other"
            + " one.");
        int[] z = {1, 2, 3, 4};
        // Two places where ints come in: the same one, the next one.
        isMergeOf(1, z, row(1, 8, 2, 3, 4), row(1, 9, 2, 3, 4));
        isMergeOf(0, z, row(1, 8, 2, 3, 4), row(1, 2, 9, 3, 4));
        isMergeOf(0, z, row(1, 8, 2, 3, 4), row(9, 1, 2, 3, 4));
        // The one takes 2 and 3 away (places 1 and 2): an int comes in before, at, in, at the end of, behind them.
        isMergeOf(0, z, row(1, 4), row(9, 1, 2, 3, 4));
        isMergeOf(1, z, row(1, 4), row(1, 9, 2, 3, 4));
        isMergeOf(1, z, row(1, 4), row(1, 2, 9, 3, 4));
        isMergeOf(1, z, row(1, 4), row(1, 2, 3, 9, 4));
        isMergeOf(0, z, row(1, 4), row(1, 2, 3, 4, 9));
        // Both take items away: apart by one item, touching, overlapping, one in the other.
        isMergeOf(0, z, row(2, 3, 4), row(1, 2, 4));
        isMergeOf(1, z, row(2, 3, 4), row(1, 3, 4));
        isMergeOf(1, z, row(3, 4), row(1, 4));
        isMergeOf(1, z, row(1), row(1, 2, 4));
        isMergeOf(1, z, row(), row(1, 2, 4));
        // The same SPLICE; one that differs in at, in deletes, in an int, in the number of ints.
        isMergeOf(0, z, row(1, 8, 4), row(1, 8, 4));
        isMergeOf(1, z, row(8, 2, 3, 4), row(1, 8, 3, 4));
        isMergeOf(1, z, row(1, 8, 4), row(1, 8, 3, 4));
        isMergeOf(1, z, row(1, 8, 4), row(1, 9, 4));
        isMergeOf(1, z, row(1, 8, 4), row(1, 8, 8, 4));
        isMergeOf(1, z, row(1, 8, 9, 4), row(1, 8, 7, 4));
        isMergeOf(1, z, row(1, 4), row(1, 8, 4));
        // One SPLICE is the same, the other one touches or does not.
        isMergeOf(1, z, row(8, 2, 3, 9), row(8, 2, 3, 7));
        isMergeOf(0, z, row(8, 2, 3, 9), row(8, 2, 3, 4));
        isMergeOf(0, z, row(8, 2, 3, 4, 9), row(8, 2, 7, 3, 4));
        // Empty and full rows.
        isMergeOf(1, row(), row(1), row(2));
        isMergeOf(0, row(), row(1), row(1));
        isMergeOf(0, row(), row(1), row());
        isMergeOf(0, row(1), row(2, 2, 2, 2, 2, 1), row(1, 3, 3, 3, 3, 3));
        isMergeOf(0, row(1, 2, 3, 4, 5, 6), row(2, 3, 4, 5, 6), row(1, 2, 3, 4, 5));
        isMergeOf(1, row(1, 2, 3, 4, 5, 6), row(), row(1, 2, 3, 4, 5));
        // One side alone, and the same place of two LISTs.
        isMergeOf(0, z, z, row(9, 2, 7, 3, 4));
        String[] two = {"node true", "node true", "link 0 0 1", "link 0 1 2"};
        givenBranches(two, calls("insert 1 0 5"), calls("insert 2 0 6"));
        t.is(0, "merge 0 1 2", "merge 0 2 1");
        // A LIST that both have created, with other items and with the same.
        String[] lost = {"node true"};
        givenBranches(lost, calls("link 0 0 1", "insert 1 0 5", "snapshot", "insert 1 1 6"), calls());
        t.is(1, "merge 0 1 2", "merge 0 2 1");
        t.isConflicts(11);
        t.is(0, "merge 0 1 1");
        t.isDelta("1 1 1", "2 0 0 2 1", "3 1 0 0 1 5");
    }

    private static void mergedDeltas() {
        t.part("TO MERGE");
        t.sentence("The merged delta has all operations of dx and of dy, those in both once.");
        // None, those of one, those of both, those in both; the order is that of a delta.
        givenBranches(calls(), calls(), calls("put 0 1 5"));
        t.is(0, "merge 0 0 1");
        t.isDelta();
        t.is(0, "merge 0 1 2");
        t.isDelta("2 0 1 1 5");
        t.is(0, "merge 0 2 1");
        t.isDelta("2 0 1 1 5");
        t.is(0, "merge 0 2 2");
        t.isDelta("2 0 1 1 5");
        String[] base = {"node true", "node true", "node false", "link 0 0 1", "insert 1 0 10", "insert 1 1 11",
            "insert 1 2 12", "insert 1 3 13", "snapshot"};
        String[] one = {"link 0 1 3", "put 3 1 31", "put 3 2 32", "link 0 2 2", "insert 2 0 20", "insert 1 4 5", "remove 1 2",
            "snapshot"};
        // All but the changes of 0 1 and 3 2 and the last item is taken back, as restoring would lose 2 and 3.
        String[] other = {"link 3 1 -1", "link 0 2 -1", "insert 1 2 12", "put 3 0 30", "insert 1 0 4", "snapshot"};
        t.given(Starts.joined(Starts.joined(base, one), other));
        for (String call : calls("merge 0 1 2", "merge 0 2 1")) {
            t.is(0, call);
            t.isDelta("1 2 1", "1 3 0", "2 0 1 2 3", "2 0 2 2 2", "3 1 0 0 1 4", "3 1 2 1 0", "3 1 4 0 1 5",
                "3 2 0 0 1 20", "2 3 0 1 30", "2 3 1 1 31", "2 3 2 1 32");
        }
        t.is(3, "apply 0");
        t.is(true, "restore 3");
        t.isList(1, 4, 10, 11, 13, 5);
        // The last CREATE stands before the first SET, the last SPLICE of a LIST before the first one of the next.
        t.given(Starts.joined(Starts.TREE, "link 4 2 -1", "snapshot", "link 4 2 15", "snapshot", "restore 0", "put 0 0 5",
            "snapshot"));
        for (String call : calls("merge 0 1 2", "merge 0 2 1")) {
            t.is(0, call);
            t.isDelta("1 15 1", "2 0 0 1 5", "2 4 2 2 15");
        }
        givenBranches(Starts.joined(Starts.joined(Starts.TREE, Starts.items(5, 1, 2, 3, 4, 5, 6)), Starts.items(6, 1)),
            calls("remove 5 0", "insert 5 5 7"), calls("insert 6 0 8", "link 4 2 0"));
        for (String call : calls("merge 0 1 2", "merge 0 2 1")) {
            t.is(0, call);
            t.isDelta("2 4 2 2 0", "3 5 0 1 0", "3 5 6 0 1 7", "3 6 0 0 1 8");
        }
        // The merged delta may be one that does not fit z: seven items in the end, or six.
        t.given(Starts.rows(row(1, 2, 3, 4), row(8, 1, 2, 3, 4), row(1, 2, 3, 4, 9), row(1, 2, 3, 4, 9, 9)));
        t.is(0, "merge 1 2 3");
        t.is(5, "apply 1");
        t.is(0, "merge 1 2 4");
        t.isDelta("3 1 0 0 1 8", "3 1 4 0 2 9 9");
        t.refused(MISFIT, "apply 1");
    }
}
