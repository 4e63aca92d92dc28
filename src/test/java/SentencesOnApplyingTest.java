/**
 * The sentences of the document on applying a delta to a version, one by one: calls at each boundary
 * that a sentence names and on both sides of it. After a refused call all that can be seen is as it was.
 */
public final class SentencesOnApplyingTest {
    private static final int BAD = -1;
    private static final long REFERENCE = 4294967296L;
    private static final long NOTHING = 8589934592L;

    /** Version 0 has RECORD 1 and LIST 2 with 3 items. RECORD 3 and LIST 4 are made, 5 and on are not. */
    private static final String[] VERSION = {"node false", "node true", "node false", "node true", "link 0 0 1",
        "link 0 1 2", "insert 2 0 10", "insert 2 1 11", "insert 2 2 12", "snapshot", "put 0 2 5"};

    private static Trial t;

    public static void main(String[] args) throws Exception {
        t = new Trial("SentencesOnApplyingTest", "TO APPLY");
        fittingCreates();
        fittingObjects();
        fittingLists();
        results();
        places();
        unreachedResults();
        t.end("TO MERGE");
    }

    private static int[] bytes(int... bytes) {
        return bytes;
    }

    private static void fittingCreates() {
        t.part("TO APPLY");
        t.sentence("TO APPLY the delta to version v: it FITS v when the objects that it creates are not in v, have been"
            + " made, and are of that kind;");
        t.isApplied(VERSION, 0, 1, 1, 3, 0);
        t.isApplied(VERSION, 0, 1, 1, 4, 1);
        t.isApplied(VERSION, 0, 1, 1, 3, 0, 1, 4, 1);
        t.isMisfit(VERSION, 0, 1, 1, 0);
        t.isMisfit(VERSION, 0, 1, 2, 1);
        t.isMisfit(VERSION, 0, 1, 3, 1);
        t.isMisfit(VERSION, 0, 1, 4, 0);
        t.isMisfit(VERSION, 0, 1, 5, 0);
        t.isMisfit(VERSION, 0, 1, 5, 1);
        t.isMisfit(VERSION, 0, 1, 15, 0);
        t.isMisfit(VERSION, 0, 1, 3, 0, 1, 4, 1, 1, 5, 0);
        t.isMisfit(VERSION, 0, 1, 2, 1, 1, 3, 0);
        String[] more = Starts.joined(VERSION, "node false");
        t.isApplied(more, 0, 1, 1, 5, 0);
        t.isMisfit(more, 0, 1, 5, 1);
        t.isMisfit(more, 0, 1, 6, 0);
        for (int o = 6; o < 15; o++) {
            more = Starts.joined(more, "node false");
        }
        t.isMisfit(more, 0, 1, 15, 1);
        more = Starts.joined(more, "node true");
        t.isApplied(more, 0, 1, 1, 15, 1);
        t.isMisfit(more, 0, 1, 15, 0);
        // The objects of the version count, not those of the live graph: 1 is not in version 1, but 4 is.
        String[] other = Starts.joined(VERSION, "link 0 0 4", "snapshot", "link 0 0 1");
        t.isApplied(other, 1, 2, 1, 1, 0);
        t.isMisfit(other, 1, 1, 4, 1);
        t.isApplied(other, 0, 2, 1, 4, 1);
    }

    private static void fittingObjects() {
        t.part("TO APPLY");
        t.sentence("objects that are SET or SPLICEd or referred to are in v or created by it, SETs are for RECORDs and"
            + " SPLICEs for LISTs;");
        t.isApplied(VERSION, 0, 1, 2, 1, 0, 0);
        t.isApplied(VERSION, 0, 1, 3, 2, 0, 1, 0);
        t.isApplied(VERSION, 0, 1, 2, 0, 2, 2, 2);
        t.isApplied(VERSION, 0, 1, 2, 0, 2, 2, 0);
        // Made, but not in the version.
        t.isMisfit(VERSION, 0, 2, 3, 0, 0);
        t.isMisfit(VERSION, 0, 3, 4, 0, 0, 1, 2);
        t.isMisfit(VERSION, 0, 2, 0, 2, 2, 3);
        t.isMisfit(VERSION, 0, 2, 0, 2, 2, 4);
        t.isApplied(VERSION, 0, 1, 1, 3, 0, 2, 3, 0, 0);
        t.isApplied(VERSION, 0, 1, 1, 4, 1, 3, 4, 0, 0, 1, 2);
        t.isApplied(VERSION, 0, 1, 1, 3, 0, 2, 0, 2, 2, 3);
        t.isApplied(VERSION, 0, 1, 1, 4, 1, 2, 0, 2, 2, 4);
        t.isApplied(VERSION, 0, 1, 1, 3, 0, 2, 3, 0, 2, 3);
        // Another one is created.
        t.isMisfit(VERSION, 0, 1, 4, 1, 2, 3, 0, 0);
        t.isMisfit(VERSION, 0, 1, 3, 0, 3, 4, 0, 0, 1, 2);
        t.isMisfit(VERSION, 0, 1, 4, 1, 2, 0, 2, 2, 3);
        // Not made.
        t.isMisfit(VERSION, 0, 2, 5, 0, 0);
        t.isMisfit(VERSION, 0, 3, 15, 0, 0, 1, 2);
        t.isMisfit(VERSION, 0, 2, 0, 2, 2, 5);
        t.isMisfit(VERSION, 0, 2, 0, 2, 2, 15);
        // The int 3 is no reference to 3.
        t.isApplied(VERSION, 0, 1, 2, 0, 2, 1, 3);
        // The other kind.
        t.isMisfit(VERSION, 0, 2, 2, 0, 0);
        t.isMisfit(VERSION, 0, 3, 1, 0, 0, 1, 2);
        t.isMisfit(VERSION, 0, 3, 0, 0, 0, 1, 2);
        // What does not fit stands behind, or before, what does.
        t.isMisfit(VERSION, 0, 2, 0, 2, 0, 2, 1, 0, 2, 3);
        t.isMisfit(VERSION, 0, 2, 0, 0, 2, 3, 2, 1, 0, 0);
        // In the version, though no longer in the live graph.
        String[] lost = Starts.joined(VERSION, "link 0 0 -1", "snapshot", "restore 1");
        t.isApplied(lost, 0, 2, 2, 1, 0, 0);
        t.isMisfit(lost, 1, 2, 1, 0, 0);
    }

    private static void fittingLists() {
        t.part("TO APPLY");
        t.sentence("and for each LIST all of whose items are then: at plus deletes of each SPLICE is at most the number of"
            + " its items in v (none for a created one), and it has at most 6 items in the end.");
        // LIST 2 has three items: the last place, the end, and one beyond.
        t.isApplied(VERSION, 0, 1, 3, 2, 2, 1, 0);
        t.isApplied(VERSION, 0, 1, 3, 2, 0, 3, 0);
        t.isApplied(VERSION, 0, 1, 3, 2, 3, 0, 1, 2);
        t.isMisfit(VERSION, 0, 3, 2, 2, 2, 0);
        t.isMisfit(VERSION, 0, 3, 2, 3, 1, 0);
        t.isMisfit(VERSION, 0, 3, 2, 0, 4, 0);
        t.isMisfit(VERSION, 0, 3, 2, 4, 0, 1, 2);
        t.isMisfit(VERSION, 0, 3, 2, 6, 0, 1, 2);
        // The second SPLICE of a LIST; what the first one inserts makes no room for it.
        t.isApplied(VERSION, 0, 1, 3, 2, 0, 1, 0, 3, 2, 2, 1, 0);
        t.isMisfit(VERSION, 0, 3, 2, 0, 1, 0, 3, 2, 2, 2, 0);
        t.isMisfit(VERSION, 0, 3, 2, 0, 0, 3, 2, 2, 2, 3, 2, 4, 1, 0);
        // A created one has no items.
        t.isApplied(VERSION, 0, 1, 1, 4, 1, 3, 4, 0, 0, 1, 2);
        t.isMisfit(VERSION, 0, 1, 4, 1, 3, 4, 0, 1, 0);
        t.isMisfit(VERSION, 0, 1, 4, 1, 3, 4, 0, 1, 1, 2);
        t.isMisfit(VERSION, 0, 1, 4, 1, 3, 4, 1, 0, 1, 2);
        t.isMisfit(VERSION, 0, 1, 4, 1, 3, 4, 0, 0, 1, 2, 3, 4, 1, 0, 1, 2);
        // Six items in the end, and seven; by one SPLICE and by several.
        t.isApplied(VERSION, 0, 1, 3, 2, 0, 0, 3, 2, 2, 2);
        t.isMisfit(VERSION, 0, 3, 2, 0, 0, 4, 2, 2, 2, 2);
        t.isApplied(VERSION, 0, 1, 3, 2, 0, 3, 6, 2, 2, 2, 2, 2, 2);
        t.isMisfit(VERSION, 0, 3, 2, 0, 2, 6, 2, 2, 2, 2, 2, 2);
        t.isApplied(VERSION, 0, 1, 3, 2, 0, 0, 2, 2, 2, 3, 2, 3, 0, 1, 2);
        t.isMisfit(VERSION, 0, 3, 2, 0, 0, 2, 2, 2, 3, 2, 3, 0, 2, 2, 2);
        t.isApplied(VERSION, 0, 1, 1, 4, 1, 3, 4, 0, 0, 6, 2, 2, 2, 2, 2, 2);
        // In the end: on the way there may be more, from the front and from behind.
        t.isApplied(VERSION, 0, 1, 3, 2, 0, 0, 5, 2, 2, 2, 2, 2, 3, 2, 1, 2, 0);
        t.is(true, "restore 1");
        t.isList(2, 1, 1, 1, 1, 1, 10);
        t.isMisfit(VERSION, 0, 3, 2, 0, 0, 6, 2, 2, 2, 2, 2, 2, 3, 2, 1, 2, 0);
        t.isMisfit(VERSION, 0, 3, 2, 0, 0, 5, 2, 2, 2, 2, 2, 3, 2, 1, 1, 0);
        t.isApplied(VERSION, 0, 1, 3, 2, 0, 2, 0, 3, 2, 3, 0, 5, 2, 2, 2, 2, 2);
        t.isMisfit(VERSION, 0, 3, 2, 0, 2, 0, 3, 2, 3, 0, 6, 2, 2, 2, 2, 2, 2);
        // The last object, and the first one that can be a LIST.
        String[] last = Starts.joined(Starts.joined(Starts.TREE, Starts.items(15, 1, 2, 3, 4, 5)), "snapshot");
        t.isApplied(last, 0, 1, 3, 15, 5, 0, 1, 2);
        t.isMisfit(last, 0, 3, 15, 5, 0, 2, 2, 2);
        t.isMisfit(last, 0, 3, 15, 6, 0, 1, 2);
        String[] first = Starts.rows(new int[] {1, 2, 3, 4, 5});
        t.isApplied(first, 1, 2, 3, 1, 5, 0, 1, 2);
        t.isMisfit(first, 1, 3, 1, 5, 0, 2, 2, 2);
        t.isMisfit(first, 1, 3, 1, 6, 0, 1, 2);
        // Another LIST's items do not count, nor those of the live graph.
        String[] two = Starts.joined(VERSION, "link 0 2 4", "snapshot", "insert 2 0 13", "insert 2 0 14");
        t.isApplied(two, 1, 2, 3, 2, 0, 0, 3, 2, 2, 2, 3, 4, 0, 0, 6, 2, 2, 2, 2, 2, 2);
        t.isMisfit(two, 1, 3, 2, 0, 0, 3, 2, 2, 2, 3, 4, 0, 1, 0);
        t.isMisfit(two, 1, 3, 2, 3, 1, 0);
    }

    private static void results() {
        t.part("TO APPLY");
        t.sentence("The result has the objects of v and those created, empty at first;");
        // RECORD 3 and LIST 4 hold something in the live graph, but are created empty.
        String[] filled = Starts.joined(VERSION, "put 3 1 5", "insert 4 0 7");
        t.isApplied(filled, 0, 1, 1, 3, 0, 1, 4, 1, 2, 0, 2, 2, 3, 2, 3, 0, 2, 4);
        t.is(true, "restore 1");
        t.is(REFERENCE + 3, "value 0 2");
        t.is(REFERENCE + 4, "value 3 0");
        t.is(NOTHING, "value 3 1", "value 3 2");
        t.isList(4);
        t.isList(2, 10, 11, 12);
        t.is(0, "kind 1");
        // The empty delta: the objects of v alone.
        t.isApplied(filled, 0, 1);
        t.is(true, "same 0 1", "restore 1");
        t.is(BAD, "kind 3", "kind 4");
        // What was put in the live graph behind the snapshot is not in the result.
        t.is(NOTHING, "value 0 2");
        // The neighbours of what is changed at its last places stay as they are.
        String[] neighbours = Starts.joined(Starts.items(2, 1, 2, 3, 4, 5, 6), "put 1 2 8", "put 3 0 9", "link 0 2 3",
            "snapshot");
        neighbours = Starts.joined(new String[] {"node false", "node true", "node false", "link 0 0 1", "link 0 1 2"}, neighbours);
        t.isApplied(neighbours, 0, 1, 3, 2, 3, 1, 0, 3, 2, 6, 0, 1, 0);
        t.is(true, "restore 1");
        t.isList(2, 1, 2, 3, 5, 6, 0);
        t.is(8L, "value 1 2");
        t.is(9L, "value 3 0");
        t.is(NOTHING, "value 3 1", "value 3 2", "value 1 0", "value 1 1");
        t.isApplied(neighbours, 0, 1, 2, 1, 2, 1, 3);
        t.is(true, "restore 1");
        t.isList(2, 1, 2, 3, 4, 5, 6);
        t.is(-2L, "value 1 2");
    }

    private static void places() {
        t.part("TO APPLY");
        t.sentence("slots are as SET, and each SPLICE takes away so many items from its place at on and puts the inserted"
            + " ints there, all places counted in the list as it was before.");
        t.isApplied(VERSION, 0, 1, 2, 0, 2, 1, 1, 2, 1, 0, 1, 0, 2, 1, 1, 2, 0, 2, 1, 2, 0);
        t.is(true, "restore 1");
        t.is(-1L, "value 0 2");
        t.is(0L, "value 1 0");
        t.is(REFERENCE, "value 1 1");
        t.is(NOTHING, "value 1 2");
        t.is(REFERENCE + 1, "value 0 0");
        // At the front, in the midst, at the end, all away.
        isSpliced(bytes(3, 2, 0, 1, 0), 11, 12);
        isSpliced(bytes(3, 2, 1, 1, 0), 10, 12);
        isSpliced(bytes(3, 2, 2, 1, 0), 10, 11);
        isSpliced(bytes(3, 2, 0, 0, 1, 2), 1, 10, 11, 12);
        isSpliced(bytes(3, 2, 3, 0, 1, 2), 10, 11, 12, 1);
        isSpliced(bytes(3, 2, 0, 3, 0));
        isSpliced(bytes(3, 2, 0, 3, 6, 2, 4, 6, 8, 10, 12), 1, 2, 3, 4, 5, 6);
        isSpliced(bytes(3, 2, 1, 1, 4, 2, 4, 6, 8), 10, 1, 2, 3, 4, 12);
        // Several: the places of the later ones are not moved by the ones before.
        isSpliced(bytes(3, 2, 0, 0, 2, 2, 4, 3, 2, 2, 1, 0), 1, 2, 10, 11);
        isSpliced(bytes(3, 2, 0, 1, 0, 3, 2, 2, 1, 1, 2), 11, 1);
        isSpliced(bytes(3, 2, 0, 0, 1, 2, 3, 2, 1, 0, 1, 4, 3, 2, 2, 0, 1, 6), 1, 10, 2, 11, 3, 12);
        isSpliced(bytes(3, 2, 0, 2, 0, 3, 2, 3, 0, 2, 2, 4), 12, 1, 2);
    }

    private static void isSpliced(int[] middle, int... items) {
        t.isApplied(VERSION, 0, 1, middle);
        t.is(true, "restore 1");
        t.isList(2, items);
    }

    private static void unreachedResults() {
        t.part("TO APPLY");
        t.sentence("Objects that are not reached are left out.");
        // Created, and reached by nothing, by one another alone, and in the end.
        t.isApplied(VERSION, 0, 1, 1, 3, 0, 1, 4, 1);
        t.is(true, "same 0 1");
        t.isApplied(VERSION, 0, 1, 1, 3, 0, 1, 4, 1, 2, 3, 0, 2, 4, 2, 3, 1, 2, 3, 2, 3, 2, 2, 0);
        t.is(true, "same 0 1");
        t.isApplied(VERSION, 0, 1, 1, 3, 0, 1, 4, 1, 2, 0, 2, 2, 3, 2, 3, 0, 2, 4);
        t.is(false, "same 0 1");
        t.is(true, "restore 1");
        t.is(0, "kind 3");
        t.is(1, "kind 4");
        // The last reference to an object is taken away, also when it is changed by the same delta.
        t.isApplied(VERSION, 0, 1, 2, 0, 1, 0, 3, 2, 0, 1, 0);
        t.is(true, "restore 1");
        t.is(BAD, "kind 2");
        t.is(0, "kind 1");
        t.isApplied(VERSION, 0, 1, 2, 0, 0, 2, 2, 2, 0, 1, 0);
        t.is(true, "restore 1");
        t.isList(2, 10, 11, 12);
        t.is(BAD, "kind 1");
        // Nothing but the root is left.
        t.isApplied(VERSION, 0, 1, 2, 0, 0, 0, 2, 0, 1, 0);
        t.is(true, "restore 1");
        t.is(0, "kind 0");
        t.is(BAD, "kind 1", "kind 2", "kind 3", "kind 4");
    }
}
