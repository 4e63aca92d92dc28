/**
 * The sentences of the promises 1 to 11, one by one: calls at each boundary that a sentence names and on
 * both sides of it. After a refused call all that can be seen is as it was.
 */
public final class SentencesOnGraphPromisesTest {
    private static final int BAD = -1;
    private static final int FULL = -2;
    private static final int MALFORMED = -4;
    private static final long NONE = 1099511627776L;
    private static final long REFERENCE = 4294967296L;
    private static final long NOTHING = 8589934592L;

    private static Trial t;

    public static void main(String[] args) throws Exception {
        t = new Trial("SentencesOnGraphPromisesTest", "## Promise 1:");
        newObject();
        nodeMakes();
        nodeRefuses();
        putHolds();
        putRefuses();
        linkRefers();
        linkRefuses();
        insertComesIn();
        insertRefuses();
        removeTakesAway();
        removeRefuses();
        kind();
        valueAnswers();
        valueHasNone();
        snapshotKeeps();
        snapshotRefuses();
        restoreBecomes();
        restoreRefuses();
        sameCompares();
        sameRefuses();
        t.end("## Promise 12:");
    }

    private static void newObject() {
        t.promise("1: A new object", "GraphDeltas()");
        t.sentence("Object 0 is made and the live graph has it alone; no versions; an empty delta and draft.");
        t.is(0, "kind 0");
        t.is(NOTHING, "value 0 0", "value 0 1", "value 0 2");
        t.is(NONE, "value 0 -1", "value 0 3");
        t.refused(BAD, "kind -1", "kind 1", "kind 15", "kind 16");
        t.refused(false, "put 1 0 5", "link 0 0 1", "insert 1 0 5", "remove 1 0");
        t.refused(false, "restore 0", "restore -1", "same 0 0");
        t.refused(BAD, "diff 0 0", "merge 0 0 0", "apply 0", "conflict 0");
        t.isDelta();
        t.isDraft();
        t.is(true, "cut 0");
        t.refused(false, "cut 1");
        t.refused(MALFORMED, "decode");
        t.is(3, "encode");
        t.isDraft(68, 0, 68);
        t.is(0, "snapshot");
        t.is(1, "node true", "apply 0");
        t.is(true, "same 0 1");
        // What is done with one object is not seen on another one that is made before or after.
        GraphDeltas before = new GraphDeltas();
        GraphDeltas g = new GraphDeltas();
        t.isSo("node", g.node(true), 1);
        t.isSo("put", g.put(0, 0, 5), true);
        t.isSo("snapshot", g.snapshot(), 0);
        t.isSo("feed", g.feed(5), true);
        for (GraphDeltas other : new GraphDeltas[] {before, new GraphDeltas()}) {
            t.isSo("kind 1 of another one", other.kind(1), BAD);
            t.isSo("value 0 0 of another one", other.value(0, 0), NOTHING);
            t.isSo("restore 0 of another one", other.restore(0), false);
            t.isSo("byteAt 0 of another one", other.byteAt(0), BAD);
            t.isSo("node of another one", other.node(false), 1);
        }
    }

    private static void nodeMakes() {
        t.promise("2: node", "int node(boolean list)");
        t.sentence("A new object in the live graph, empty: a LIST, or else a RECORD: its number.");
        t.isOnly(1, "node true", "live object 1 ", "node");
        t.isOnly(2, "node false", "live object 2 ", "node");
        t.isList(1);
        t.is(0, "kind 2");
        t.is(NOTHING, "value 2 0", "value 2 1", "value 2 2");
        t.is(BAD, "kind 3");
        // Empty, though an object that was lost before had something; the numbers go on.
        t.given(Starts.RICH);
        t.isOnly(6, "node true", "live object 6 ", "node");
        t.isList(6);
        t.is(true, "insert 6 0 60", "restore 0");
        t.isOnly(7, "node true", "live object 7 ", "node");
        t.is(BAD, "kind 6");
        t.isList(7);
        t.isOnly(8, "node false", "live object 8 ", "node");
        t.is(NOTHING, "value 8 0", "value 8 1", "value 8 2");
    }

    private static void nodeRefuses() {
        t.sentence("FULL when 16 are made.");
        for (int o = 1; o < 14; o++) {
            t.is(o, "node false");
        }
        t.is(14, "node false");
        t.is(15, "node true");
        t.refused(FULL, "node false", "node true");
        // Fifteen were made, though the live graph has one; then sixteen, though it has two, and one again.
        t.given("snapshot", "node true");
        for (int o = 2; o < 15; o++) {
            t.is(o, "node true");
        }
        t.is(true, "restore 0");
        t.is(15, "node true");
        t.is(BAD, "kind 14");
        t.refused(FULL, "node false", "node true");
        t.is(true, "restore 0");
        t.refused(FULL, "node false", "node true");
        // Object 15 is still a LIST for deltas.
        t.fed(Trial.closed(1, 15, 0));
        t.is(1, "decode");
        t.refused(-3, "apply 0");
        t.fed(Trial.closed(1, 15, 1));
        t.is(1, "decode");
        t.is(1, "apply 0");
        t.given(Starts.FULL);
        t.refused(FULL, "node false", "node true");
    }

    private static void putHolds() {
        t.promise("3: put", "boolean put(int o, int k, int v)");
        t.sentence("Slot k of object o of the live graph holds the int v.");
        t.given(Starts.RICH);
        t.isOnly(true, "put 0 0 MIN", "live object 0 ");
        t.isOnly(true, "put 0 2 MAX", "live object 0 ");
        t.isOnly(true, "put 2 1 0", "live object 2 ");
        t.is(-2147483648L, "value 0 0");
        t.is(REFERENCE + 2, "value 0 1");
        t.is(2147483647L, "value 0 2");
        t.is(REFERENCE + 3, "value 2 0");
        t.is(0L, "value 2 1");
        t.is(-7L, "value 2 2");
        t.is(true, "put 2 1 0", "put 2 2 -1");
        t.is(0L, "value 2 1");
        t.is(-1L, "value 2 2");
    }

    private static void putRefuses() {
        t.sentence("False when it has no such RECORD, or k is not 0 .. 2.");
        t.given(Starts.RICH);
        t.is(true, "put 0 0 5", "put 0 2 5", "put 2 0 5", "put 2 2 5");
        t.refused(false, "put 0 -1 5", "put 0 3 5", "put 2 -1 5", "put 2 3 5", "put 0 MIN 5", "put 0 MAX 5");
        // A LIST, one that the live graph has lost, ones that are not made, and numbers that none has.
        t.refused(false, "put 1 0 5", "put 3 2 5", "put 5 0 5", "put 4 0 5", "put 6 0 5", "put 15 0 5");
        t.refused(false, "put -1 0 5", "put 16 0 5", "put MIN 0 5", "put MAX 0 5", "put -1 -1 5");
        t.is(6, "node false");
        t.is(true, "put 6 0 5");
        t.refused(false, "put 7 0 5");
        t.given(Starts.FULL);
        t.is(true, "put 4 2 5");
        t.refused(false, "put 15 0 5", "put 16 0 5", "put 5 0 5");
        t.given();
        for (int o = 1; o < 16; o++) {
            t.is(o, "node false");
        }
        t.is(true, "put 15 2 5");
        t.refused(false, "put 15 3 5", "put 16 0 5");
        t.is(5L, "value 15 2");
    }

    private static void linkRefers() {
        t.promise("4: link", "boolean link(int o, int k, int p)");
        t.sentence("Slot k of object o of the live graph refers to p, or holds NOTHING for p = -1.");
        t.given(Starts.RICH);
        t.isOnly(true, "link 0 0 0", "live object 0 ");
        t.isOnly(true, "link 0 2 5", "live object 0 ");
        t.isOnly(true, "link 2 0 2", "live object 2 ");
        t.isOnly(true, "link 2 2 -1", "live object 2 ");
        t.is(REFERENCE, "value 0 0");
        t.is(REFERENCE + 2, "value 0 1");
        t.is(REFERENCE + 5, "value 0 2");
        t.is(REFERENCE + 2, "value 2 0");
        t.is(NOTHING, "value 2 2");
        // NOTHING again where there is NOTHING; what no slot refers to stays in the live graph.
        t.is(true, "link 2 2 -1", "link 0 0 -1", "link 0 1 -1");
        t.is(NOTHING, "value 2 2", "value 0 0", "value 0 1");
        t.isList(1, 13, 10, 11);
        t.is(0, "kind 2");
        t.given(Starts.TREE);
        t.is(true, "link 4 2 0", "link 0 0 15");
        t.is(REFERENCE, "value 4 2");
        t.is(REFERENCE + 15, "value 0 0");
    }

    private static void linkRefuses() {
        t.sentence("False when it has no such RECORD, k is not 0 .. 2, or p is neither -1 nor one of its objects.");
        t.given(Starts.RICH);
        t.is(true, "link 0 0 -1", "link 0 0 0", "link 0 2 5", "link 2 0 1", "link 2 2 3");
        t.refused(false, "link 0 -1 1", "link 0 3 1", "link 0 3 -1", "link 0 MIN 1", "link 0 MAX 1", "link 2 3 0");
        t.refused(false, "link 1 0 0", "link 1 0 -1", "link 5 0 0", "link 4 0 0", "link 6 0 0", "link 15 0 0");
        t.refused(false, "link -1 0 0", "link -1 0 -1", "link 16 0 0", "link MIN 0 0", "link MAX 0 -1");
        // Lost, not made, no number of an object.
        t.refused(false, "link 0 0 4", "link 0 0 6", "link 0 0 15", "link 0 0 16", "link 0 0 -2", "link 0 0 MIN", "link 0 0 MAX");
        t.is(6, "node true");
        t.is(true, "link 0 0 6");
        t.refused(false, "link 0 0 7");
        t.is(true, "restore 0");
        t.refused(false, "link 0 0 5", "link 0 0 6");
        t.given(Starts.FULL);
        t.is(true, "link 4 2 15");
        t.refused(false, "link 4 2 16", "link 15 0 0", "link 16 0 0");
        t.given();
        for (int o = 1; o < 16; o++) {
            t.is(o, "node false");
        }
        t.is(true, "link 15 2 15");
        t.refused(false, "link 15 3 15", "link 16 2 15", "link 15 2 16");
    }

    private static void insertComesIn() {
        t.promise("5: insert", "boolean insert(int o, int at, int v)");
        t.sentence("The int v comes in at place at of the LIST o of the live graph, before the one that was there.");
        t.given(Starts.RICH);
        t.isOnly(true, "insert 5 0 MIN", "live object 5 ");
        t.isList(5, Integer.MIN_VALUE);
        // Before the first one, before the last one, behind it, in the midst.
        t.isOnly(true, "insert 5 0 MAX", "live object 5 ");
        t.isList(5, Integer.MAX_VALUE, Integer.MIN_VALUE);
        t.isOnly(true, "insert 5 1 0", "live object 5 ");
        t.isList(5, Integer.MAX_VALUE, 0, Integer.MIN_VALUE);
        t.isOnly(true, "insert 5 3 -1", "live object 5 ");
        t.isList(5, Integer.MAX_VALUE, 0, Integer.MIN_VALUE, -1);
        t.isOnly(true, "insert 5 2 7", "live object 5 ");
        t.isOnly(true, "insert 5 0 7", "live object 5 ");
        t.isList(5, 7, Integer.MAX_VALUE, 0, 7, Integer.MIN_VALUE, -1);
        t.given(Starts.TREE);
        for (int v = 6; v >= 1; v--) {
            t.isOnly(true, "insert 15 0 " + v, "live object 15 ");
        }
        t.isList(15, 1, 2, 3, 4, 5, 6);
    }

    private static void insertRefuses() {
        t.sentence("False when it has no such LIST, this has 6 items, or at is not 0 up to the number of its items.");
        t.given(Starts.RICH);
        // LIST 5 has none, LIST 1 three, LIST 3 six items.
        t.refused(false, "insert 5 -1 9", "insert 5 1 9", "insert 5 6 9", "insert 5 MIN 9", "insert 5 MAX 9");
        t.refused(false, "insert 1 -1 9", "insert 1 4 9", "insert 1 5 9", "insert 1 MIN 9", "insert 1 MAX 9");
        t.refused(false, "insert 3 -1 9", "insert 3 0 9", "insert 3 5 9", "insert 3 6 9", "insert 3 7 9", "insert 3 MAX 9");
        t.refused(false, "insert 0 0 9", "insert 2 0 9", "insert 4 0 9", "insert 6 0 9", "insert 15 0 9");
        t.refused(false, "insert -1 0 9", "insert 16 0 9", "insert MIN 0 9", "insert MAX 0 9");
        t.is(true, "insert 5 0 9", "insert 1 3 9", "insert 1 0 9", "remove 3 2", "insert 3 5 9");
        t.isList(3, 30, 31, 33, 34, 35, 9);
        t.refused(false, "insert 3 6 9", "insert 3 0 9");
        // Five, six, and no seventh item.
        t.isList(1, 9, 13, 10, 11, 9);
        t.refused(false, "insert 1 6 9");
        t.is(true, "insert 1 5 8");
        t.refused(false, "insert 1 6 9", "insert 1 5 9", "insert 1 0 9");
        t.isList(1, 9, 13, 10, 11, 9, 8);
        t.given(Starts.FULL);
        t.refused(false, "insert 15 0 9", "insert 15 6 9", "insert 16 0 9");
        t.is(true, "insert 14 0 9");
    }

    private static void removeTakesAway() {
        t.promise("6: remove", "boolean remove(int o, int at)");
        t.sentence("The item at a place of the LIST o of the live graph is taken away.");
        t.given(Starts.RICH);
        t.isOnly(true, "remove 3 5", "live object 3 ");
        t.isList(3, 30, 31, 32, 33, 34);
        t.isOnly(true, "remove 3 0", "live object 3 ");
        t.isList(3, 31, 32, 33, 34);
        t.isOnly(true, "remove 3 1", "live object 3 ");
        t.isList(3, 31, 33, 34);
        t.is(true, "remove 3 1", "remove 3 1");
        t.isList(3, 31);
        t.isOnly(true, "remove 3 0", "live object 3 ");
        t.isList(3);
        t.is(true, "insert 3 0 36");
        t.isList(3, 36);
        t.given(Starts.FULL);
        for (int n = 5; n >= 0; n--) {
            t.isOnly(true, "remove 15 " + n / 2, "live object 15 ");
            t.is(1 + n, "kind 15");
        }
    }

    private static void removeRefuses() {
        t.sentence("False when there is none.");
        t.given(Starts.RICH);
        t.refused(false, "remove 5 0", "remove 5 -1", "remove 5 1", "remove 5 MIN", "remove 5 MAX");
        t.refused(false, "remove 1 3", "remove 1 -1", "remove 1 5", "remove 1 6", "remove 1 MIN", "remove 1 MAX");
        t.refused(false, "remove 3 6", "remove 3 -1", "remove 3 7", "remove 3 MAX");
        t.refused(false, "remove 0 0", "remove 2 2", "remove 4 0", "remove 6 0", "remove 15 0");
        t.refused(false, "remove -1 0", "remove 16 0", "remove MIN 0", "remove MAX 0");
        t.is(true, "remove 1 2");
        t.refused(false, "remove 1 2");
        t.is(true, "remove 1 0", "remove 1 0");
        t.refused(false, "remove 1 0");
        t.is(true, "remove 3 5");
        t.refused(false, "remove 3 5");
        t.given(Starts.FULL);
        t.refused(false, "remove 15 6", "remove 16 0", "remove 14 0");
        t.is(true, "remove 15 5");
        t.refused(false, "remove 15 5");
    }

    private static void kind() {
        t.promise("7: kind", "int kind(int o)");
        t.sentence("0 for a RECORD of the live graph, 1 plus the number of its items for a LIST of it; BAD when it has no"
            + " object o.");
        t.given(Starts.RICH);
        t.is(0, "kind 0", "kind 2");
        t.is(1, "kind 5");
        t.is(4, "kind 1");
        t.is(7, "kind 3");
        t.refused(BAD, "kind 4", "kind 6", "kind 15", "kind 16", "kind -1", "kind MIN", "kind MAX");
        t.is(6, "node false");
        t.is(0, "kind 6");
        t.refused(BAD, "kind 7");
        t.given(Starts.FULL);
        t.is(0, "kind 4");
        t.is(1, "kind 14");
        t.is(7, "kind 15");
        t.refused(BAD, "kind 16", "kind -1");
        t.is(true, "restore 1");
        // In version 1 nothing refers to 13.
        t.refused(BAD, "kind 13");
        t.is(1, "kind 12", "kind 14");
        t.is(2, "kind 5");
    }

    private static void valueAnswers() {
        t.promise("8: value", "long value(int o, int k)");
        t.sentence("The int in slot k of RECORD o, or at place k of LIST o, of the live graph; 2^32 + p for a reference to"
            + " p; 2^33 for NOTHING.");
        t.given(Starts.joined(Starts.TREE, "put 0 0 MIN", "put 0 1 -1", "put 0 2 MAX"));
        t.is(-2147483648L, "value 0 0");
        t.is(-1L, "value 0 1");
        t.is(2147483647L, "value 0 2");
        t.is(4294967296L + 13, "value 4 0");
        t.is(4294967296L + 15, "value 4 2");
        t.is(true, "link 0 0 0", "link 0 1 15", "link 0 2 -1");
        t.is(4294967296L, "value 0 0");
        t.is(4294967311L, "value 0 1");
        t.is(8589934592L, "value 0 2");
        t.is(true, "put 0 2 0");
        t.is(0L, "value 0 2");
        t.then(Starts.items(15, -2147483648, -1, 0, 1, 15, 2147483647));
        t.is(-2147483648L, "value 15 0");
        t.is(-1L, "value 15 1");
        t.is(0L, "value 15 2");
        t.is(15L, "value 15 4");
        t.is(2147483647L, "value 15 5");
    }

    private static void valueHasNone() {
        t.sentence("NONE when there is no such slot or place.");
        t.given(Starts.RICH);
        t.is(99L, "value 0 2");
        t.is(-7L, "value 2 2");
        t.refused(NONE, "value 0 -1", "value 0 3", "value 0 6", "value 0 MIN", "value 0 MAX", "value 2 -1", "value 2 3");
        t.is(11L, "value 1 2");
        t.refused(NONE, "value 1 3", "value 1 -1", "value 1 MIN", "value 1 MAX");
        t.is(35L, "value 3 5");
        t.refused(NONE, "value 3 6", "value 3 7", "value 3 -1");
        t.refused(NONE, "value 5 0", "value 5 -1", "value 5 1");
        t.refused(NONE, "value 4 0", "value 6 0", "value 15 0", "value 16 0", "value -1 0", "value MIN 0", "value MAX 0",
            "value -1 -1", "value MAX MAX", "value MIN MIN");
        t.is(true, "insert 5 0 8", "remove 1 2");
        t.is(8L, "value 5 0");
        t.refused(NONE, "value 5 1", "value 1 2");
        t.given(Starts.FULL);
        t.is(6L, "value 15 5");
        t.refused(NONE, "value 15 6", "value 16 0");
    }

    private static void snapshotKeeps() {
        t.promise("9: snapshot", "int snapshot()");
        t.sentence("A new version: the live graph without what is not reached in it (the live graph stays as it is).");
        t.given(Starts.RICH);
        t.is(true, "link 2 1 -1");
        t.isOnly(3, "snapshot", "version 3 ", "no version 3", "snapshot:");
        t.is(1, "kind 5");
        t.is(true, "restore 3");
        t.is(BAD, "kind 5");
        t.isList(1, 13, 10, 11);
        t.is(99L, "value 0 2");
        // The root alone, and all sixteen.
        t.is(true, "link 0 0 -1", "link 0 1 -1", "put 0 2 MAX");
        t.isOnly(4, "snapshot", "version 4 ", "no version 4", "snapshot:");
        t.is(true, "restore 4");
        t.is(0, "kind 0");
        t.is(2147483647L, "value 0 2");
        t.is(BAD, "kind 1", "kind 2", "kind 3");
        t.given(Starts.joined(Starts.TREE, "insert 15 0 5"));
        t.isOnly(0, "snapshot", "version 0 ", "no version 0", "snapshot:");
        t.is(true, "remove 15 0", "link 4 1 15", "restore 0");
        t.isList(15, 5);
        t.isList(14);
        t.is(REFERENCE + 14, "value 4 1");
        // What is not reached, but refers to reached ones.
        t.given("node false", "node true", "link 0 0 2", "link 1 0 2", "link 1 1 0", "insert 2 0 1");
        t.isOnly(0, "snapshot", "version 0 ", "no version 0", "snapshot:");
        t.is(true, "restore 0");
        t.is(BAD, "kind 1");
        t.isList(2, 1);
    }

    private static void snapshotRefuses() {
        t.sentence("Its number; FULL when there are eight.");
        for (int v = 0; v < 6; v++) {
            t.is(v, "snapshot");
            t.is(true, "put 0 0 " + v);
        }
        t.is(6, "snapshot");
        t.is(true, "put 0 0 7");
        t.is(7, "snapshot");
        t.is(true, "put 0 0 8");
        t.refused(FULL, "snapshot");
        t.is(true, "restore 7");
        t.is(7L, "value 0 0");
        t.refused(FULL, "snapshot");
        t.refused(false, "restore 8");
        // Versions that come from applying count, too.
        t.given(Starts.RICH);
        t.is(3, "apply 0");
        t.is(4, "snapshot");
        t.is(5, "apply 0");
        t.is(6, "apply 1");
        t.is(7, "snapshot");
        t.refused(FULL, "snapshot");
        t.given(Starts.FULL);
        t.refused(FULL, "snapshot");
    }

    private static void restoreBecomes() {
        t.promise("10: restore", "boolean restore(int v)");
        t.sentence("The live graph becomes version v.");
        t.given(Starts.RICH);
        // With less than the live graph has; what was made stays made.
        t.isOnly(true, "restore 0", "live");
        t.is(REFERENCE + 1, "value 0 0");
        t.is(NOTHING, "value 0 2", "value 2 1");
        t.isList(1, 10, 11, 12);
        t.isList(3, 30, 31, 32, 33, 34, 35);
        t.is(BAD, "kind 4", "kind 5");
        t.isOnly(true, "restore 2", "live");
        t.is(2L, "value 0 2");
        t.isList(1, 14, 10, 11, 12);
        // With other rows, shorter and longer; twice the same.
        t.is(true, "remove 1 0", "remove 1 0", "insert 1 0 7", "restore 2", "restore 2");
        t.isList(1, 14, 10, 11, 12);
        t.is(6, "node true");
        t.given(Starts.FULL);
        t.isOnly(true, "restore 7", "live");
        t.isOnly(true, "restore 0", "live");
        t.isList(5);
        t.isList(15, 1, 2, 3, 4, 5, 6);
        // The root alone and back.
        t.given(Starts.joined(new String[] {"snapshot"}, Starts.joined(Starts.TREE, "insert 15 0 5", "snapshot")));
        t.isOnly(true, "restore 0", "live");
        t.is(BAD, "kind 1", "kind 15");
        t.isOnly(true, "restore 1", "live");
        t.is(0, "kind 1");
        t.isList(15, 5);
    }

    private static void restoreRefuses() {
        t.sentence("False when there is none.");
        t.refused(false, "restore 0", "restore -1", "restore 1");
        t.given(Starts.RICH);
        t.refused(false, "restore -1", "restore 3", "restore 7", "restore 8", "restore MIN", "restore MAX");
        t.is(3, "snapshot");
        t.refused(false, "restore 4");
        t.is(true, "restore 3");
        t.given(Starts.FULL);
        t.refused(false, "restore 8", "restore -1", "restore 9");
        t.is(true, "restore 7", "restore 0");
    }

    private static void sameCompares() {
        t.promise("11: same", "boolean same(int a, int b)");
        t.sentence("Whether two versions have the same objects with the same contents.");
        t.given(Starts.RICH);
        for (int a = 0; a < 3; a++) {
            for (int b = 0; b < 3; b++) {
                t.isOnly(a == b, "same " + a + " " + b);
            }
        }
        // The same again, though the live graphs were not: object 5 is not reached.
        t.is(true, "restore 0");
        t.is(6, "node true");
        t.is(3, "snapshot");
        t.is(true, "same 0 3", "same 3 0");
        // The int 0, the reference to 0 and NOTHING.
        t.given("snapshot", "put 0 2 0", "snapshot", "link 0 2 0", "snapshot", "link 0 2 -1", "snapshot");
        t.is(false, "same 0 1", "same 1 0", "same 0 2", "same 2 0", "same 1 2", "same 2 1", "same 1 3");
        t.is(true, "same 0 3", "same 3 0");
        // An item more or less, even a 0; another order; the last place of a full row.
        t.given(Starts.rows(new int[] {0}, new int[] {0, 0}, new int[] {1, 2}, new int[] {2, 1},
            new int[] {1, 2, 3, 4, 5, 6}, new int[] {1, 2, 3, 4, 5, 7}, new int[] {1, 2, 3, 4, 5, 6}));
        t.is(false, "same 0 1", "same 1 2", "same 3 4", "same 5 6", "same 6 7");
        t.is(true, "same 5 7", "same 7 5", "same 0 0");
        // An object more, which is empty; an object instead of another one; the last object.
        t.given("node true", "node true", "put 0 0 1", "snapshot", "link 0 0 1", "snapshot", "link 0 0 2", "snapshot");
        t.is(false, "same 0 1", "same 1 2", "same 2 1");
        t.given(Starts.joined(Starts.TREE, "snapshot", "insert 15 0 0", "snapshot", "remove 15 0", "snapshot"));
        t.is(false, "same 0 1", "same 1 2");
        t.is(true, "same 0 2");
        // A value of a slot that is left behind by another kind of content does not count.
        t.given("put 0 0 5", "link 0 0 -1", "snapshot", "put 0 0 6", "link 0 0 -1", "snapshot");
        t.is(true, "same 0 1");
        t.given(Starts.rows(new int[] {7, 8}, new int[] {}));
        t.then("restore 1", "remove 1 0", "remove 1 0", "snapshot");
        t.is(true, "same 2 3", "same 0 3");
    }

    private static void sameRefuses() {
        t.sentence("False when one of them is not there.");
        t.refused(false, "same 0 0", "same -1 -1", "same 0 1");
        t.given(Starts.RICH);
        t.is(true, "same 2 2");
        t.refused(false, "same 2 3", "same 3 2", "same 3 3", "same 0 -1", "same -1 0", "same -1 -1", "same 8 8", "same 0 8",
            "same 0 MIN", "same MAX 0", "same MAX MAX", "same MIN MIN");
        t.is(3, "snapshot");
        t.is(true, "same 3 3");
        t.given(Starts.FULL);
        t.is(true, "same 7 7", "same 7 3");
        t.refused(false, "same 8 8", "same 7 8", "same 8 7", "same 9 9");
    }
}
