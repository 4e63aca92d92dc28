/**
 * The sentences of the document on objects, graphs and versions, one by one: calls at each boundary
 * that a sentence names and on both sides of it. After a refused call all that can be seen is as it was.
 */
public final class SentencesOnObjectsTest {
    private static final int BAD = -1;
    private static final int FULL = -2;
    private static final long NONE = 1099511627776L;
    private static final long REFERENCE = 4294967296L;
    private static final long NOTHING = 8589934592L;

    private static Trial t;

    public static void main(String[] args) throws Exception {
        t = new Trial("SentencesOnObjectsTest", "# GraphDeltas");
        whatItIs();
        numberOfCalls();
        objects();
        recordsAndLists();
        slots();
        graphs();
        root();
        reached();
        versions();
        t.end("A DELTA is a row");
    }

    private static void whatItIs() {
        t.part("What it is");
        t.plain("# GraphDeltas ## What it is");
        t.sentence("Keeps versions of a graph of objects, finds the least difference of two of them, writes differences"
            + " as bytes and reads them, applies them to versions, and merges two versions that come from a third one.");
        t.given("node true", "link 0 0 1", "insert 1 0 1", "insert 1 1 2", "snapshot",
            "insert 1 0 9", "snapshot", "restore 0", "put 0 1 4", "remove 1 1", "snapshot");
        t.is(1, "diff 0 1");
        t.isDelta("3 1 0 0 1 9");
        t.is(9, "encode");
        t.isDraft(Trial.closed(3, 1, 0, 0, 1, 18));
        t.is(2, "diff 0 2");
        t.isDelta("2 0 1 1 4", "3 1 1 1 0");
        t.is(1, "decode");
        t.isDelta("3 1 0 0 1 9");
        t.is(3, "apply 0");
        t.is(true, "same 1 3");
        t.is(0, "merge 0 1 2");
        t.isDelta("2 0 1 1 4", "3 1 0 0 1 9", "3 1 1 1 0");
        t.is(4, "apply 0");
        t.is(true, "restore 4");
        t.is(4L, "value 0 1");
        t.isList(1, 9, 1);
    }

    private static void numberOfCalls() {
        t.part("What it is");
        t.sentence("An object is used for at most 512 calls after it has been made; what later calls answer is free.");
        for (int k = 0; k < 510; k++) {
            t.is(true, "feed " + k % 256);
        }
        // The 511th and the 512th call.
        t.is(true, "feed 77");
        t.is(77, "byteAt 510");
        t.free("node true", "put 0 0 1", "link 0 0 1", "insert 1 0 1", "remove 1 0", "kind 0", "value 0 0", "snapshot",
            "restore 0", "same 0 0", "diff 0 0", "merge 0 0 0", "conflict 0", "operation 0 0", "apply 0", "feed 1",
            "cut 3", "decode", "encode", "byteAt 0");
        t.given(Starts.RICH);
        for (int k = Starts.RICH.length; k < 510; k++) {
            t.is(2, "merge 0 1 2");
        }
        t.is(3, "diff 0 1");
        t.is(3, "apply 0");
        t.free("apply 0", "diff 0 9", "merge -1 9 0", "value MIN MAX", "operation MAX MIN");
        t.plain("## The public face public final class GraphDeltas {"
            + " public static final int BAD = -1; public static final int FULL = -2;"
            + " public static final int MISFIT = -3; public static final int MALFORMED = -4;"
            + " public static final long NONE = 1099511627776L; public GraphDeltas();"
            + " public int node(boolean list); public boolean put(int o, int k, int v);"
            + " public boolean link(int o, int k, int p); public boolean insert(int o, int at, int v);"
            + " public boolean remove(int o, int at); public int kind(int o); public long value(int o, int k);"
            + " public int snapshot(); public boolean restore(int v); public boolean same(int a, int b);"
            + " public int diff(int a, int b); public int merge(int z, int x, int y); public int conflict(int k);"
            + " public long operation(int k, int which); public int apply(int v); public int encode();"
            + " public boolean feed(int b); public boolean cut(int n); public int decode(); public int byteAt(int i); }"
            + " ## Terms");
    }

    private static void objects() {
        t.part("OBJECTS");
        t.sentence("OBJECTS have numbers 0, 1, .. in the order in which they were made; at most 16 are made.");
        t.is(0, "kind 0");
        t.is(BAD, "kind 1");
        for (int o = 1; o < 15; o++) {
            t.is(o, "node " + (o % 2 == 0));
        }
        t.is(BAD, "kind 15");
        t.is(15, "node true");
        t.is(1, "kind 15");
        t.refused(FULL, "node true", "node false");
        // What the live graph has lost has been made all the same.
        t.given("snapshot", "node true", "node true", "restore 0");
        t.is(3, "node false");
        for (int o = 4; o <= 15; o++) {
            t.is(o, "node false");
        }
        t.is(true, "restore 0");
        t.refused(FULL, "node true", "node false");
    }

    private static void recordsAndLists() {
        t.part("OBJECTS");
        t.sentence("An object is a RECORD, with the slots 0, 1, 2, or a LIST of 0 to 6 ints (its ITEMS, at 0, 1, ..).");
        t.given("node false", "node true");
        for (int o = 0; o <= 1; o++) {
            t.is(NOTHING, "value " + o + " 0", "value " + o + " 1", "value " + o + " 2");
            t.is(NONE, "value " + o + " -1", "value " + o + " 3");
            t.is(true, "put " + o + " 0 5", "put " + o + " 2 5");
            t.refused(false, "put " + o + " -1 5", "put " + o + " 3 5");
        }
        t.isList(2);
        t.refused(false, "remove 2 0", "remove 2 -1");
        for (int k = 0; k < 6; k++) {
            t.is(true, "insert 2 " + k + " " + 10 * k);
        }
        t.isList(2, 0, 10, 20, 30, 40, 50);
        t.is(NONE, "value 2 -1");
        t.refused(false, "insert 2 6 60", "insert 2 0 60");
        t.is(true, "remove 2 5");
        t.isList(2, 0, 10, 20, 30, 40);
        t.is(true, "insert 2 5 60");
        t.isList(2, 0, 10, 20, 30, 40, 60);
    }

    private static void slots() {
        t.part("OBJECTS");
        t.sentence("A slot holds NOTHING (at first), an int, or a reference to an object.");
        t.given("node false", "put 0 0 0");
        t.is(NOTHING, "value 0 1", "value 1 0", "value 1 1", "value 1 2");
        t.is(0L, "value 0 0");
        t.is(true, "put 0 0 MIN", "put 0 1 MAX", "put 0 2 -1");
        t.is(-2147483648L, "value 0 0");
        t.is(2147483647L, "value 0 1");
        t.is(-1L, "value 0 2");
        t.given(Starts.TREE);
        t.is(true, "link 0 0 0", "link 0 1 1", "link 0 2 15");
        t.is(REFERENCE, "value 0 0");
        t.is(REFERENCE + 1, "value 0 1");
        t.is(REFERENCE + 15, "value 0 2");
        t.is(true, "link 0 0 -1");
        t.is(NOTHING, "value 0 0");
    }

    private static void graphs() {
        t.part("GRAPH");
        t.sentence("A GRAPH has some of the objects, each with its contents; references are to objects that it has.");
        t.given("snapshot", "node false", "node true", "link 0 0 1", "snapshot", "insert 2 0 5");
        t.is(true, "link 1 0 2");
        t.is(true, "restore 1");
        // Object 2 is made, but this graph has it not; 3 is not made.
        t.is(0, "kind 1");
        t.is(BAD, "kind 2", "kind 3");
        t.refused(false, "link 1 0 2", "link 1 0 3");
        t.is(true, "link 1 0 1");
        t.is(true, "restore 0");
        t.is(BAD, "kind 1");
        t.refused(false, "link 0 0 1", "link 0 0 2");
        t.is(true, "link 0 0 0");
        // A version, too, refers to nothing that it has not.
        String[] made = {"node true", "snapshot"};
        t.isMisfit(made, 0, 2, 0, 0, 2, 1);
        t.isApplied(made, 0, 1, 1, 1, 1, 2, 0, 0, 2, 1);
        t.is(true, "restore 1");
        t.isList(1);
    }

    private static void root() {
        t.part("GRAPH");
        t.sentence("Object 0, the ROOT, is a RECORD and in every graph.");
        t.is(0, "kind 0");
        t.refused(false, "insert 0 0 1", "remove 0 0");
        t.is(0, "snapshot");
        t.is(1, "apply 0");
        t.is(true, "restore 1");
        t.is(0, "kind 0");
        // Nothing refers to the root, and it holds nothing.
        t.given("node false", "link 1 0 1", "snapshot", "restore 0");
        t.is(0, "kind 0");
        t.is(BAD, "kind 1");
        t.isMalformed(Starts.RICH, 1, 0, 0);
        t.isMalformed(Starts.RICH, 1, 0, 1);
        t.isMisfit(Starts.RICH, 0, 3, 0, 0, 0, 1, 2);
        t.isApplied(Starts.RICH, 0, 3, 2, 0, 0, 0, 2, 0, 1, 0);
        t.is(true, "restore 3");
        t.is(0, "kind 0");
        t.is(BAD, "kind 1", "kind 2", "kind 3");
    }

    private static void reached() {
        t.part("REACHED");
        t.sentence("REACHED in a graph are the root and all objects to which slots of reached ones refer.");
        // The longest way, against the order of the numbers: 0, 15, 14, .., 1.
        t.given();
        for (int o = 1; o < 16; o++) {
            t.is(o, "node " + (o == 1));
        }
        t.is(true, "link 0 2 15");
        for (int o = 15; o > 1; o--) {
            t.is(true, "link " + o + " " + o % 3 + " " + (o - 1));
        }
        t.is(0, "snapshot");
        t.is(true, "link 2 2 -1");
        t.is(1, "snapshot");
        t.is(true, "link 0 2 -1");
        t.is(2, "snapshot");
        t.is(true, "restore 0");
        t.is(1, "kind 1");
        t.is(0, "kind 2", "kind 15");
        t.is(true, "restore 1");
        t.is(BAD, "kind 1");
        t.is(0, "kind 2", "kind 15");
        t.is(true, "restore 2");
        t.is(0, "kind 0");
        t.is(BAD, "kind 1", "kind 2", "kind 14", "kind 15");
        // A ring that goes through the root, and one that only leads there.
        t.given("node false", "node false", "node false", "link 0 0 1", "link 1 1 0", "link 2 0 3", "link 3 0 2",
            "link 3 1 0", "link 3 2 1", "snapshot", "restore 0");
        t.is(0, "kind 0", "kind 1");
        t.is(BAD, "kind 2", "kind 3");
        // Ints in slots and items are no references.
        t.given("node true", "node false", "node false", "link 0 0 1", "insert 1 0 2", "put 0 1 2", "put 0 2 3",
            "snapshot", "restore 0");
        t.isList(1, 2);
        t.is(BAD, "kind 2", "kind 3");
    }

    private static void versions() {
        t.part("VERSIONS");
        t.sentence("There is the LIVE graph; and VERSIONS 0, 1, .. (at most 8) are graphs that never change.");
        t.given("node true", "link 0 0 1");
        for (int v = 0; v < 7; v++) {
            t.is(v, "snapshot");
            t.is(true, "insert 1 0 " + v % 6, "put 0 1 " + v);
            if (v == 5) {
                t.is(true, "remove 1 5");
            }
        }
        t.refused(false, "restore 7", "same 7 7");
        t.is(7, "snapshot");
        t.is(true, "same 7 7");
        t.refused(FULL, "snapshot", "apply 0");
        t.refused(false, "restore 8", "restore -1", "same 8 8");
        t.is(true, "restore 0");
        t.isList(1);
        t.is(NOTHING, "value 0 1");
        t.is(true, "restore 2");
        t.isList(1, 1, 0);
        t.is(1L, "value 0 1");
        // Neither changes of what was restored, nor deltas, reach a version.
        t.is(true, "remove 1 0", "put 0 1 70", "link 0 0 -1", "restore 2");
        t.isList(1, 1, 0);
        t.is(1L, "value 0 1");
        t.given(Starts.RICH);
        t.is(3, "apply 0");
        t.is(true, "restore 0");
        t.isList(1, 10, 11, 12);
        t.is(true, "put 0 2 5", "insert 1 0 5", "restore 3");
        t.isList(1, 13, 10, 11);
        t.is(1L, "value 0 2");
    }
}
