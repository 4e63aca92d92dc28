/**
 * The sentences of the promises 12 to 21, one by one: calls at each boundary that a sentence names and on
 * both sides of it. After a refused call all that can be seen is as it was.
 */
public final class SentencesOnDeltaPromisesTest {
    private static final int BAD = -1;
    private static final int FULL = -2;
    private static final int MISFIT = -3;
    private static final int MALFORMED = -4;
    private static final long NONE = 1099511627776L;

    /** The bytes of the delta that RICH ends with. */
    private static final int[] RICH_BYTES = Trial.closed(2, 0, 2, 1, 2, 3, 1, 0, 0, 1, 26, 3, 1, 2, 1, 0);

    private static Trial t;

    public static void main(String[] args) throws Exception {
        t = new Trial("SentencesOnDeltaPromisesTest", "## Promise 12:");
        diffBecomes();
        diffAnswers();
        mergeBecomes();
        mergeAnswers();
        mergeStays();
        conflictsInOrder();
        conflictRefuses();
        operationAnswers();
        operationHasNone();
        applyGives();
        applyRefuses();
        encodeBecomes();
        encodeAnswers();
        feedAdds();
        feedRefuses();
        cutKeeps();
        cutRefuses();
        decodeBecomes();
        decodeRefuses();
        draftStays();
        byteAt();
        notPromised();
        t.endOfDocument();
    }

    private static int[] bytes(int... bytes) {
        return bytes;
    }

    private static void diffBecomes() {
        t.promise("12: diff", "int diff(int a, int b)");
        t.sentence("The delta becomes the difference of version a to version b.");
        t.given(Starts.RICH);
        t.isOnly(2, "diff 0 2", "operation");
        t.isDelta("2 0 2 1 2", "3 1 0 0 1 14");
        t.isOnly(2, "diff 2 0", "operation");
        t.isDelta("2 0 2 0 0", "3 1 0 1 0");
        t.isOnly(3, "diff 2 1", "operation");
        t.isDelta("2 0 2 1 1", "3 1 0 1 1 13", "3 1 3 1 0");
        // Of a version to itself: the longer delta that there was is gone.
        t.isOnly(0, "diff 1 1", "operation");
        t.isDelta();
        // The live graph does not count.
        t.is(true, "put 0 0 5", "insert 1 0 5");
        t.is(2, "diff 0 2");
        t.isDelta("2 0 2 1 2", "3 1 0 0 1 14");
        t.given(Starts.FULL);
        t.isOnly(0, "diff 7 2", "operation");
        t.isOnly(3, "diff 1 7", "operation");
        t.isDelta("1 13 1", "2 4 0 2 13", "3 5 0 1 1 51");
    }

    private static void diffAnswers() {
        t.sentence("Answers the number of its operations; BAD when a version is not there.");
        t.refused(BAD, "diff 0 0", "diff -1 -1");
        t.is(0, "snapshot");
        t.is(0, "diff 0 0");
        t.refused(BAD, "diff 0 1", "diff 1 0", "diff 1 1");
        t.given(Starts.RICH);
        t.is(3, "diff 0 1");
        t.refused(BAD, "diff 0 3", "diff 3 0", "diff 3 3", "diff 2 -1", "diff -1 2", "diff -1 -1", "diff 0 7", "diff 0 8",
            "diff 8 8", "diff MIN 0", "diff 0 MIN", "diff MAX 0", "diff 0 MAX");
        t.is(3, "snapshot");
        t.is(4, "diff 3 0");
        t.refused(BAD, "diff 3 4");
        t.given(Starts.FULL);
        t.is(0, "diff 7 7");
        t.refused(BAD, "diff 7 8", "diff 8 7", "diff 9 9");
        // As many operations as a difference can have.
        t.given("snapshot");
        for (int o = 1; o < 16; o++) {
            t.is(o, "node false");
            t.is(true, "link " + (o - 1) / 3 + " " + (o - 1) % 3 + " " + o);
        }
        for (int o = 5; o < 16; o++) {
            t.is(true, "put " + o + " 0 1", "put " + o + " 1 2", "put " + o + " 2 3");
        }
        t.is(1, "snapshot");
        t.is(15 + 48, "diff 0 1");
        t.is(2L, "operation 62 0");
        t.is(15L, "operation 62 1");
        t.is(NONE, "operation 63 0");
        t.is(3, "diff 1 0");
    }

    private static void mergeBecomes() {
        t.promise("13: merge", "int merge(int z, int x, int y)");
        t.plain("Merges versions x and y over z.");
        t.sentence("When there is no conflict, the delta becomes the merged one.");
        t.given(Starts.joined(Starts.RICH, "restore 0", "put 2 1 5", "insert 1 3 15", "snapshot"));
        t.isOnly(0, "merge 0 2 3", "operation", "conflict");
        t.isDelta("2 0 2 1 2", "3 1 0 0 1 14", "3 1 3 0 1 15", "2 2 1 1 5");
        // With nothing to do: the delta becomes empty.
        t.isOnly(0, "merge 0 0 0", "operation", "conflict");
        t.isDelta();
        t.isOnly(0, "merge 0 0 1", "operation", "conflict");
        t.isDelta("2 0 2 1 1", "3 1 0 0 1 13", "3 1 2 1 0");
        t.isOnly(0, "merge 0 2 2", "operation", "conflict");
        t.isDelta("2 0 2 1 2", "3 1 0 0 1 14");
        // x and y may be the same as z, and over themselves.
        t.isOnly(0, "merge 1 1 2", "operation", "conflict");
        t.isDelta("2 0 2 1 2", "3 1 0 1 1 14", "3 1 3 0 1 12");
        t.isOnly(0, "merge 2 0 2", "operation", "conflict");
        t.isDelta("2 0 2 0 0", "3 1 0 1 0");
    }

    private static void mergeAnswers() {
        t.sentence("Answers the number of conflicts; BAD when a version is not there.");
        t.refused(BAD, "merge 0 0 0", "merge -1 -1 -1");
        t.is(0, "snapshot");
        t.is(0, "merge 0 0 0");
        t.refused(BAD, "merge 1 0 0", "merge 0 1 0", "merge 0 0 1");
        t.given(Starts.RICH);
        t.is(2, "merge 0 1 2", "merge 0 2 1");
        t.is(0, "merge 0 1 1");
        t.refused(BAD, "merge 3 1 2", "merge 0 3 2", "merge 0 1 3", "merge 3 3 3", "merge -1 1 2", "merge 0 -1 2", "merge 0 1 -1");
        t.refused(BAD, "merge 8 1 2", "merge 0 8 2", "merge 0 1 8", "merge MIN 1 2", "merge 0 MIN 2", "merge 0 1 MIN",
            "merge MAX 1 2", "merge 0 MAX 2", "merge 0 1 MAX");
        t.is(2, "merge 0 1 2");
        t.refused(BAD, "merge 0 1 3", "merge 3 1 2");
        t.is(3, "snapshot");
        t.is(1, "merge 0 1 3");
        t.refused(BAD, "merge 0 1 4");
        t.given(Starts.FULL);
        t.is(1, "merge 0 1 7");
        t.refused(BAD, "merge 8 1 7", "merge 0 8 7", "merge 0 1 8");
    }

    private static void mergeStays() {
        t.sentence("When there are conflicts, the delta stays.");
        t.given(Starts.RICH);
        t.is(2, "diff 2 0");
        t.isOnly(2, "merge 0 1 2", "conflict");
        t.isOnly(2, "merge 0 2 1", "conflict");
        t.isDelta("2 0 2 0 0", "3 1 0 1 0");
        // The empty delta stays, too; one conflict is enough; without it the delta does not stay.
        t.is(0, "diff 1 1");
        t.isOnly(2, "merge 0 1 2", "conflict");
        t.isDelta();
        t.then("restore 0", "put 0 2 1", "put 2 2 8", "snapshot");
        t.then("restore 0", "put 0 2 7", "put 2 0 8", "snapshot");
        t.isOnly(1, "merge 0 3 4", "conflict");
        t.isConflicts(2);
        t.isDelta();
        t.isOnly(0, "merge 0 1 3", "operation", "conflict");
        t.isDelta("2 0 2 1 1", "3 1 0 0 1 13", "3 1 2 1 0", "2 2 2 1 8");
        t.isOnly(1, "merge 0 3 4", "conflict");
        t.isDelta("2 0 2 1 1", "3 1 0 0 1 13", "3 1 2 1 0", "2 2 2 1 8");
    }

    private static void conflictsInOrder() {
        t.promise("14: conflict", "int conflict(int k)");
        t.sentence("Conflict k (0 the first) of the latest merge (that was not refused), by their objects and then their"
            + " slots: 8 times the object plus the slot, or plus 3 for a LIST (which counts once).");
        t.given(Starts.RICH);
        t.isConflicts(2, 11);
        // A refused merge does not count, other calls do not change them, one without conflicts does.
        t.is(BAD, "merge 0 1 3", "merge -1 0 0");
        t.isConflicts(2, 11);
        t.is(0, "diff 1 1");
        t.is(3, "apply 0", "encode");
        t.is(0, "decode");
        t.is(true, "restore 0");
        t.isConflicts(2, 11);
        t.is(0, "merge 0 1 1");
        t.isConflicts();
        t.is(2, "merge 0 1 2");
        t.isConflicts(2, 11);
        // The first object and its first slot up to the last LIST, changed in falling order; both SPLICEs of that meet.
        t.given();
        for (int o = 1; o < 16; o++) {
            t.is(o, "node " + (o > 5));
            t.is(true, "link " + o / 3 + " " + o % 3 + " " + o);
        }
        t.is(true, "insert 15 0 1", "insert 15 1 2", "insert 15 2 3");
        t.is(0, "snapshot");
        conflictingSide(1, 20);
        conflictingSide(2, 21);
        for (String merge : new String[] {"merge 0 1 2", "merge 0 2 1"}) {
            t.is(13, merge);
            t.isConflicts(0, 41, 42, 51, 59, 67, 75, 83, 91, 99, 107, 115, 123);
        }
        // RECORDs up to the last one, with each of its slots.
        t.given();
        for (int o = 1; o < 16; o++) {
            t.is(o, "node false");
        }
        t.is(true, "link 0 1 15", "link 15 0 14");
        t.is(0, "snapshot");
        t.is(true, "put 15 2 1", "put 15 1 1", "put 14 2 1", "put 14 0 1", "put 0 2 1", "put 0 0 1");
        t.is(1, "snapshot");
        t.is(true, "put 15 2 2", "put 15 1 2", "put 14 2 2", "put 14 0 2", "put 0 2 2", "link 0 0 0");
        t.is(2, "snapshot");
        t.is(6, "merge 0 1 2");
        t.isConflicts(0, 2, 112, 114, 121, 122);
        // As many conflicts as there can be: both sides create all objects, and set each slot otherwise.
        t.given("snapshot");
        for (int o = 1; o < 16; o++) {
            t.is(o, "node false");
        }
        for (int side = 0; side <= 1; side++) {
            for (int k = 0; k < 48; k++) {
                int next = k / 3 * 3 + (k + side) % 3 + 1;
                t.is(true, k < 15 ? "link " + k / 3 + " " + k % 3 + " " + next : "put " + k / 3 + " " + k % 3 + " " + side);
            }
            t.is(1 + side, "snapshot");
        }
        t.is(48, "merge 0 1 2");
        for (int k = 0; k < 48; k++) {
            t.is(k / 3 * 8 + k % 3, "conflict " + k);
        }
        t.is(BAD, "conflict 48");
        // Three SPLICEs of one LIST that meet three others: once.
        t.given(Starts.rows(bytes(1, 2, 3, 4, 5), bytes(9, 2, 9, 4, 9), bytes(8, 2, 8, 4, 8), bytes(8, 2, 9, 4, 8)));
        t.is(1, "merge 1 2 3");
        t.isConflicts(11);
        t.is(1, "merge 1 2 4");
        t.isConflicts(11);
    }

    /** A version in which the slots that were free and all LISTs are changed. */
    private static void conflictingSide(int version, int v) {
        t.is(true, "restore 0", "remove 15 2", "insert 15 2 " + v, "remove 15 0", "insert 15 0 " + v);
        for (int o = 14; o >= 6; o--) {
            t.is(true, "insert " + o + " 0 " + v);
        }
        t.is(true, "put 5 2 " + v, "put 5 1 " + v, "put 0 0 " + v);
        t.is(version, "snapshot");
    }

    private static void conflictRefuses() {
        t.sentence("BAD when there is none.");
        t.refused(BAD, "conflict 0", "conflict -1", "conflict 1", "conflict 47", "conflict 48", "conflict MIN", "conflict MAX");
        t.given(Starts.RICH);
        t.is(2, "conflict 0");
        t.is(11, "conflict 1");
        t.refused(BAD, "conflict -1", "conflict 2", "conflict 3", "conflict 47", "conflict 48", "conflict MIN", "conflict MAX");
        t.is(0, "merge 0 1 1");
        t.refused(BAD, "conflict 0", "conflict 1", "conflict -1");
        t.given(Starts.FULL);
        t.is(43, "conflict 0");
        t.refused(BAD, "conflict 1", "conflict -1");
    }

    private static void operationAnswers() {
        t.promise("15: operation", "long operation(int k, int which)");
        t.sentence("Of operation k (0 the first) of the delta: for which 0 its code, 1 its object, 2 the kind, the slot or"
            + " at; 3 for a SET 0 for NOTHING, 1 for an int, 2 for a reference, for a SPLICE deletes; 4 for a SET the int"
            + " or the object referred to (0 for NOTHING), for a SPLICE the number of inserted ints; 5 and on for a SPLICE"
            + " the inserted ints.");
        t.isRead(Starts.RICH, bytes(1, 1, 0, 1, 15, 1), "1 1 0", "1 15 1");
        t.isRead(Starts.RICH, bytes(2, 0, 0, 0, 2, 0, 2, 0), "2 0 0 0 0", "2 0 2 0 0");
        t.isRead(Starts.RICH, bytes(2, 0, 0, 1, 255, 255, 255, 255, 15, 2, 0, 1, 1, 254, 255, 255, 255, 15, 2, 15, 2, 1, 0),
            "2 0 0 1 -2147483648", "2 0 1 1 2147483647", "2 15 2 1 0");
        t.isRead(Starts.RICH, bytes(2, 0, 0, 2, 0, 2, 0, 1, 2, 15), "2 0 0 2 0", "2 0 1 2 15");
        t.isRead(Starts.RICH, bytes(3, 1, 0, 6, 0), "3 1 0 6 0");
        t.isRead(Starts.RICH, bytes(3, 15, 6, 0, 1, 1), "3 15 6 0 1 -1");
        t.isRead(Starts.RICH, bytes(3, 1, 5, 1, 6, 1, 2, 3, 4, 5, 6), "3 1 5 1 6 -1 1 -2 2 -3 3");
        // NOTHING tells 0 also where the operation before it was written over.
        t.given("snapshot", "put 0 0 77", "snapshot", "diff 0 1");
        t.isDelta("2 0 0 1 77");
        t.is(1, "diff 1 0");
        t.isDelta("2 0 0 0 0");
    }

    private static void operationHasNone() {
        t.sentence("NONE when there is no such thing.");
        t.refused(NONE, "operation 0 0", "operation -1 0", "operation 0 -1", "operation 1 0");
        // A CREATE, a SET of each kind, SPLICEs with no int, one and six.
        t.given(Starts.RICH);
        t.fed(Trial.closed(1, 7, 1, 2, 0, 0, 0, 2, 0, 1, 1, 9, 2, 0, 2, 2, 7, 3, 1, 0, 1, 0, 3, 1, 2, 0, 1, 2,
            3, 3, 0, 6, 6, 2, 2, 2, 2, 2, 4));
        t.is(7, "decode");
        t.is(1L, "operation 0 2");
        t.refused(NONE, "operation 0 3", "operation 0 4", "operation 0 5", "operation 0 -1", "operation 0 MIN", "operation 0 MAX");
        for (int k = 1; k <= 3; k++) {
            t.is(k == 1 ? 0L : k == 2 ? -5L : 7L, "operation " + k + " 4");
            t.refused(NONE, "operation " + k + " 5", "operation " + k + " -1", "operation " + k + " 6");
        }
        t.is(0L, "operation 4 4");
        t.refused(NONE, "operation 4 5", "operation 4 6", "operation 4 -1");
        t.is(1L, "operation 5 5");
        t.refused(NONE, "operation 5 6", "operation 5 7", "operation 5 -1");
        t.is(2L, "operation 6 10");
        t.refused(NONE, "operation 6 11", "operation 6 12", "operation 6 -1", "operation 6 MIN", "operation 6 MAX");
        t.refused(NONE, "operation 7 0", "operation 7 5", "operation 8 0", "operation -1 0", "operation -1 11",
            "operation 126 0", "operation 127 0", "operation MIN 0", "operation MAX 0", "operation MIN MIN", "operation MAX MAX");
        // What a longer delta had is not there in a shorter one.
        t.fed(Trial.closed(3, 1, 0, 1, 0));
        t.is(1, "decode");
        t.refused(NONE, "operation 1 0", "operation 0 5");
        t.is(0, "diff 0 0");
        t.refused(NONE, "operation 0 0");
    }

    private static void applyGives() {
        t.promise("16: apply", "int apply(int v)");
        t.sentence("Applies the delta to version v: the number of the new version that is the result.");
        t.given(Starts.RICH);
        t.isOnly(3, "apply 0", "version 3 ", "no version 3", "snapshot:");
        t.is(true, "same 1 3");
        t.isOnly(4, "apply 2", "version 4 ", "no version 4", "snapshot:");
        t.is(true, "restore 4");
        t.isList(1, 13, 14, 10, 12);
        t.is(1L, "value 0 2");
        // The longer delta that there was before has no part in it.
        t.given(Starts.RICH);
        t.is(2, "diff 0 2");
        t.is(3, "apply 0");
        t.is(true, "same 2 3");
        t.given(Starts.rows(bytes(), bytes(1, 2, 3, 4, 5, 6)));
        t.is(1, "diff 1 2");
        t.is(0, "diff 1 1");
        t.is(3, "apply 2");
        t.is(true, "same 2 3");
        // Of a result again, and the empty delta: the same once more.
        t.given(Starts.joined(Starts.RICH, "apply 0", "apply 2"));
        t.is(0, "diff 0 0");
        t.isOnly(5, "apply 4", "version 5 ", "no version 5", "snapshot:");
        t.is(true, "same 4 5");
        t.is(6, "snapshot");
        t.isOnly(7, "apply 0", "version 7 ", "no version 7", "snapshot:");
        t.is(true, "same 0 7");
        t.refused(FULL, "apply 0");
        // The root alone, to all sixteen objects and back.
        t.given(Starts.joined(new String[] {"snapshot"}, Starts.joined(Starts.TREE, "insert 15 0 5", "snapshot", "diff 0 1")));
        t.isOnly(2, "apply 0", "version 2 ", "no version 2", "snapshot:");
        t.is(true, "same 1 2");
        t.is(3, "diff 1 0");
        t.isOnly(3, "apply 2", "version 3 ", "no version 3", "snapshot:");
        t.is(true, "same 0 3");
    }

    private static void applyRefuses() {
        t.sentence("BAD when v is not there; else MISFIT when the delta does not fit it; else FULL when there are eight"
            + " versions.");
        t.refused(BAD, "apply 0", "apply -1");
        t.given(Starts.RICH);
        t.refused(BAD, "apply 3", "apply -1", "apply 7", "apply 8", "apply MIN", "apply MAX");
        t.is(3, "apply 2");
        t.refused(BAD, "apply 4");
        // A delta that fits no version: BAD comes first, with three versions and with eight.
        t.fed(Trial.closed(1, 1, 1));
        t.is(1, "decode");
        t.refused(BAD, "apply 4", "apply -1", "apply 8");
        t.refused(MISFIT, "apply 0", "apply 3");
        for (int v = 4; v < 7; v++) {
            t.is(v, "snapshot");
        }
        t.refused(MISFIT, "apply 0", "apply 6");
        t.refused(BAD, "apply 7");
        t.is(7, "snapshot");
        t.refused(MISFIT, "apply 0", "apply 7");
        t.refused(BAD, "apply 8", "apply -1", "apply MAX");
        // One that fits: FULL with eight versions, a version with seven.
        t.is(3, "diff 0 1");
        t.refused(FULL, "apply 0", "apply 1", "apply 7");
        t.refused(BAD, "apply 8", "apply -1");
        t.given(Starts.FULL);
        t.refused(FULL, "apply 0");
        t.is(0, "diff 0 0");
        t.refused(FULL, "apply 0", "apply 7");
        t.given(Starts.RICH);
        for (int v = 3; v < 7; v++) {
            t.is(v, "snapshot");
        }
        t.is(7, "apply 0");
        t.refused(FULL, "apply 0");
        // It fits one version and not another one.
        t.given(Starts.rows(bytes(1), bytes(1, 2), bytes(1, 2, 3), bytes(1, 2, 3, 4, 5), bytes(1, 2, 3, 4, 5, 6)));
        t.fed(Trial.closed(3, 1, 1, 1, 2, 2, 4));
        t.is(1, "decode");
        t.refused(MISFIT, "apply 0", "apply 1", "apply 5");
        t.is(6, "apply 2");
        t.is(7, "apply 4");
        t.refused(FULL, "apply 3");
        t.refused(MISFIT, "apply 1");
    }

    private static void encodeBecomes() {
        t.promise("17: encode", "int encode()");
        t.sentence("The draft becomes the bytes of the delta.");
        t.given(Starts.RICH);
        t.isOnly(19, "encode", "byteAt");
        t.isDraft(RICH_BYTES);
        t.isOnly(19, "encode", "byteAt");
        t.isDraft(RICH_BYTES);
        // In the place of a longer draft, of a shorter one, of none.
        t.is(0, "diff 0 0");
        t.isOnly(3, "encode", "byteAt");
        t.isDraft(68, 0, 68);
        t.is(3, "diff 0 1");
        t.isOnly(19, "encode", "byteAt");
        t.isDraft(RICH_BYTES);
        t.is(true, "cut 0");
        t.isOnly(19, "encode", "byteAt");
        t.isDraft(RICH_BYTES);
        // Of a delta that was read, also when it fits nothing.
        t.isRead(Starts.RICH, bytes(1, 15, 1, 2, 14, 2, 2, 15, 3, 15, 6, 0, 1, 129, 1), "1 15 1", "2 14 2 2 15", "3 15 6 0 1 -65");
    }

    private static void encodeAnswers() {
        t.sentence("Answers their number.");
        t.is(3, "encode");
        t.is(true, "cut 3");
        t.refused(false, "cut 4");
        t.given(Starts.RICH);
        t.is(19, "encode");
        t.is(true, "cut 19");
        t.refused(false, "cut 20");
        t.is(2, "diff 2 0");
        t.is(12, "encode");
        t.is(true, "cut 12");
        t.refused(false, "cut 13");
        // More than a byte could tell.
        t.given(Starts.joined(new String[] {"snapshot"}, Starts.TREE));
        for (int o = 5; o < 15; o++) {
            t.then(Starts.items(o, 1, 2, 3, 4, 5, 6));
        }
        t.then("snapshot", "diff 0 1");
        t.is(3 + 15 * 3 + 15 * 5 + 10 * 11, "encode");
        t.then(Starts.items(15, 1, 2, 3, 4, 5, 6));
        t.is(2, "snapshot");
        t.is(41, "diff 0 2");
        t.is(3 + 15 * 3 + 15 * 5 + 11 * 11, "encode");
        t.is(0, "byteAt 242");
        t.is(BAD, "byteAt 244");
        t.is(41, "decode");
    }

    private static void feedAdds() {
        t.promise("18: feed", "boolean feed(int b)");
        t.sentence("Adds a byte to the draft.");
        t.isOnly(true, "feed 0", "byteAt");
        t.isDraft(0);
        t.isOnly(true, "feed 255", "byteAt");
        t.isDraft(0, 255);
        t.isOnly(true, "feed 128", "byteAt");
        t.isDraft(0, 255, 128);
        // Behind what was encoded, or cut; the byte that stood there once does not count.
        t.is(3, "encode");
        t.isOnly(true, "feed 1", "byteAt");
        t.isDraft(68, 0, 68, 1);
        t.is(true, "cut 1");
        t.isOnly(true, "feed 7", "byteAt");
        t.isDraft(68, 7);
    }

    private static void feedRefuses() {
        t.sentence("False when b is not 0 .. 255 or it has 1200.");
        t.refused(false, "feed -1", "feed 256", "feed -128", "feed 511", "feed MIN", "feed MAX");
        t.given(Starts.RICH);
        t.refused(false, "feed -1", "feed 256", "feed -256", "feed MIN", "feed MAX");
        t.is(true, "feed 0", "feed 255", "feed 1", "feed 254");
        // With 1199 bytes and with 1200, in more calls than the document promises anything for.
        GraphDeltas g = new GraphDeltas();
        for (int i = 0; i < 1199; i++) {
            t.isSo("feed", g.feed(255), true);
        }
        t.isSo("feed 256 to 1199", g.feed(256), false);
        t.isSo("feed 3 to 1199", g.feed(3), true);
        t.isSo("feed 0 to 1200", g.feed(0), false);
        t.isSo("feed 3 to 1200", g.feed(3), false);
        t.isSo("feed 255 to 1200", g.feed(255), false);
        t.isSo("byteAt 1199", g.byteAt(1199), 3);
        t.isSo("byteAt 1198", g.byteAt(1198), 255);
        t.isSo("byteAt 0", g.byteAt(0), 255);
        t.isSo("cut 1201", g.cut(1201), false);
        t.isSo("cut 1200", g.cut(1200), true);
    }

    private static void cutKeeps() {
        t.promise("19: cut", "boolean cut(int n)");
        t.sentence("Keeps the first n bytes of the draft.");
        t.is(true, "cut 0");
        t.isDraft();
        t.is(true, "feed 5", "feed 6", "feed 7", "feed 8");
        t.isOnly(true, "cut 4");
        t.isDraft(5, 6, 7, 8);
        t.isOnly(true, "cut 3", "byteAt");
        t.isDraft(5, 6, 7);
        t.isOnly(true, "cut 1", "byteAt");
        t.isDraft(5);
        t.isOnly(true, "cut 1");
        t.isOnly(true, "cut 0", "byteAt");
        t.isDraft();
        t.isOnly(true, "cut 0");
        // The sum of what is kept, not of what was there.
        t.fed(68, 0, 68, 9, 9);
        t.is(true, "cut 3");
        t.is(0, "decode");
    }

    private static void cutRefuses() {
        t.sentence("False when n is negative or more than it has.");
        t.refused(false, "cut -1", "cut 1", "cut 1200", "cut 1201", "cut MIN", "cut MAX");
        t.given(Starts.RICH);
        t.refused(false, "cut -1", "cut 21", "cut 22", "cut 1200", "cut 1201", "cut MIN", "cut MAX");
        t.is(true, "cut 20", "cut 19");
        t.refused(false, "cut 20", "cut -1");
        t.is(true, "cut 0");
        t.refused(false, "cut 1", "cut -1");
    }

    private static void decodeBecomes() {
        t.promise("20: decode", "int decode()");
        t.sentence("When the draft is the bytes of a delta, this becomes the delta that there is, and the number of its"
            + " operations is answered.");
        t.given(Starts.RICH);
        t.fed(68, 0, 68);
        t.isOnly(0, "decode", "operation");
        t.isDelta();
        t.fed(Trial.closed(1, 15, 0));
        t.isOnly(1, "decode", "operation");
        t.isDelta("1 15 0");
        t.fed(RICH_BYTES);
        t.isOnly(3, "decode", "operation");
        t.isDelta("2 0 2 1 1", "3 1 0 0 1 13", "3 1 2 1 0");
        t.isOnly(3, "decode", "operation");
        t.isDelta("2 0 2 1 1", "3 1 0 0 1 13", "3 1 2 1 0");
        t.is(3, "apply 0");
        t.is(true, "same 1 3");
        // As many operations as calls are left to feed the bytes of.
        int[] splices = {};
        for (int k = 0; k < 80; k++) {
            splices = Starts.joined(splices, 3, k / 7, k % 7, 0, 1, 5);
        }
        t.given();
        t.fed(Trial.closed(splices));
        t.is(80, "decode");
        t.is(11L, "operation 79 1");
        t.is(2L, "operation 79 2");
        t.is(NONE, "operation 80 0");
        longestDelta();
    }

    /** Takes more calls than the document promises anything for. */
    private static void longestDelta() {
        int[] middle = {};
        for (int o = 1; o < 16; o++) {
            middle = Starts.joined(middle, 1, o, 1);
        }
        for (int k = 0; k < 16 * 7; k++) {
            middle = Starts.joined(middle, 3, k / 7, k % 7, 0, 1, 5);
        }
        GraphDeltas g = new GraphDeltas();
        int[] bytes = Trial.closed(middle);
        for (int b : bytes) {
            t.isSo("feed", g.feed(b), true);
        }
        t.isSo("decode of 127 operations", g.decode(), 127);
        t.isSo("operation 126 1", g.operation(126, 1), 15L);
        t.isSo("operation 126 2", g.operation(126, 2), 6L);
        t.isSo("operation 127 0", g.operation(127, 0), NONE);
        t.isSo("encode of 127 operations", g.encode(), bytes.length);
        for (int i = 0; i < bytes.length; i++) {
            t.isSo("byteAt " + i, g.byteAt(i), bytes[i]);
        }
        // No room for a 128th: none could stand behind the last one.
        t.isSo("cut", g.cut(bytes.length - 2), true);
        int sum = -bytes[bytes.length - 1];
        for (int b : Starts.joined(bytes, 3, 15, 6, 0, 1, 5)) {
            sum += b;
        }
        for (int b : new int[] {3, 15, 6, 0, 1, 5, 0, sum % 256}) {
            t.isSo("feed", g.feed(b), true);
        }
        t.isSo("decode of 128 operations", g.decode(), MALFORMED);
        t.isSo("operation 126 2", g.operation(126, 2), 6L);
    }

    private static void decodeRefuses() {
        t.sentence("MALFORMED when it is not.");
        t.refused(MALFORMED, "decode");
        // Each beginning of the bytes of a delta, and one byte more.
        for (int n = 0; n < RICH_BYTES.length; n++) {
            t.given(Starts.RICH);
            t.fed(RICH_BYTES);
            t.is(true, "cut " + n);
            t.refused(MALFORMED, "decode");
        }
        for (int more : new int[] {0, 68, 255}) {
            t.given(Starts.RICH);
            t.fed(RICH_BYTES);
            t.is(true, "feed " + more);
            t.refused(MALFORMED, "decode");
        }
        // Each byte one more or one less, with the old sum.
        for (int n = 0; n < RICH_BYTES.length; n++) {
            for (int by : new int[] {1, 255}) {
                int[] changed = RICH_BYTES.clone();
                changed[n] = (changed[n] + by) % 256;
                t.given(Starts.RICH);
                t.fed(changed);
                t.refused(MALFORMED, "decode");
            }
        }
        // Two bytes changed places: the sum is still right.
        t.given(Starts.RICH);
        t.fed(0, 68, 68);
        t.refused(MALFORMED, "decode");
        t.isMalformed(Starts.RICH, 3, 1, 0, 0, 1, 26, 2, 0, 2, 1, 2);
        // What is wrong stands at the end of what could be read.
        t.isMalformed(Starts.RICH, 1, 7, 0, 2, 0, 0, 1, 9, 3, 1, 0, 1, 0, 3, 1, 1, 1, 0);
        t.given(Starts.RICH);
        t.fed(68, 1, 7, 0, 2, 0, 0, 1, 9, 0, 0);
        t.refused(MALFORMED, "decode");
        // A read delta and a refused one after another.
        t.fed(Trial.closed(1, 7, 1));
        t.is(1, "decode");
        t.fed(Trial.closed(1, 9, 0, 1, 10, 0, 1, 8, 0));
        t.refused(MALFORMED, "decode");
        t.isDelta("1 7 1");
        t.is(0, "diff 0 0");
        t.refused(MALFORMED, "decode");
        t.isDelta();
    }

    private static void draftStays() {
        t.sentence("(The draft stays.)");
        t.given(Starts.RICH);
        t.is(MALFORMED, "decode");
        t.isDraft(Starts.joined(RICH_BYTES, 255));
        t.is(true, "cut 19");
        t.is(3, "decode", "decode");
        t.isDraft(RICH_BYTES);
        t.is(true, "feed 1");
        t.isDraft(Starts.joined(RICH_BYTES, 1));
        t.given();
        t.is(MALFORMED, "decode");
        t.isDraft();
    }

    private static void byteAt() {
        t.promise("21: byteAt", "int byteAt(int i)");
        t.sentence("Byte i (0 the first) of the draft; BAD when there is none.");
        t.refused(BAD, "byteAt 0", "byteAt -1", "byteAt 1", "byteAt 1199", "byteAt 1200", "byteAt MIN", "byteAt MAX");
        t.given(Starts.RICH);
        t.is(68, "byteAt 0");
        t.is(2, "byteAt 1");
        t.is(255, "byteAt 19");
        t.refused(BAD, "byteAt -1", "byteAt 20", "byteAt 21", "byteAt 1199", "byteAt 1200", "byteAt MIN", "byteAt MAX");
        t.is(true, "cut 19");
        t.is(0, "byteAt 17");
        t.is(RICH_BYTES[18], "byteAt 18");
        t.refused(BAD, "byteAt 19");
        t.is(true, "cut 0");
        t.refused(BAD, "byteAt 0", "byteAt -1");
        t.is(true, "feed 0");
        t.is(0, "byteAt 0");
        t.refused(BAD, "byteAt 1");
    }

    private static void notPromised() {
        t.part("Not promised");
        t.plain("## Not promised How the state is held inside the object is free, as are the speed of each call, the text of"
            + " toString and the behaviour of equals and hashCode. Use of one object from several threads at once is not"
            + " promised to be safe. Nothing is promised beyond the answers and state changes described above, and nothing"
            + " about an object after its 512th call.");
    }
}
