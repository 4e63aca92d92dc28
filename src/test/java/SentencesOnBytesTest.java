/**
 * The sentences of the document on the bytes of a delta, the draft and refused calls, one by one: calls at each boundary
 * that a sentence names and on both sides of it. After a refused call all that can be seen is as it was.
 */
public final class SentencesOnBytesTest {
    private static final int BAD = -1;
    private static final int FULL = -2;
    private static final int MISFIT = -3;

    private static Trial t;

    public static void main(String[] args) throws Exception {
        t = new Trial("SentencesOnBytesTest", "BYTES of a delta");
        bytesOfCreate();
        bytesOfSet();
        bytesOfSplice();
        sum();
        varints();
        draft();
        roomOfDraft();
        refusedCalls();
        constants();
        t.end("## Promise 1");
    }

    private static int[] bytes(int... bytes) {
        return bytes;
    }

    private static int[] row(int... items) {
        return items;
    }

    private static void bytesOfCreate() {
        t.part("BYTES");
        t.sentence("BYTES of a delta: 68; for each operation its code, its object, and then: CREATE: the kind.");
        t.given("node false", "node true", "snapshot", "link 0 0 1", "link 0 1 2", "snapshot", "diff 0 0");
        t.is(3, "encode");
        t.isDraft(68, 0, 68);
        t.is(4, "diff 0 1");
        t.is(19, "encode");
        t.isDraft(Trial.closed(1, 1, 0, 1, 2, 1, 2, 0, 0, 2, 1, 2, 0, 1, 2, 2));
        // The bytes next to 68 are no beginning; the sum is right each time.
        for (int first : new int[] {0, 67, 69, 255}) {
            t.given(Starts.RICH);
            t.fed(first, 0, first);
            t.refused(-4, "decode");
        }
        t.fed(68, 0, 68);
        t.is(0, "decode");
    }

    private static void bytesOfSet() {
        t.part("BYTES");
        t.sentence("SET: the slot, 0 for NOTHING, 1 for an int, 2 for a reference; for an int its VARINT, for a reference"
            + " the object.");
        t.given(Starts.joined(Starts.TREE, "snapshot", "link 0 0 -1", "put 0 1 0", "link 0 2 15", "snapshot"));
        t.is(3, "diff 0 1");
        t.is(17, "encode");
        t.isDraft(Trial.closed(2, 0, 0, 0, 2, 0, 1, 1, 0, 2, 0, 2, 2, 15));
        t.given("put 0 1 1", "snapshot", "link 0 0 0", "put 0 1 -2", "put 0 2 MAX", "snapshot", "diff 0 1");
        t.is(22, "encode");
        t.isDraft(Trial.closed(2, 0, 0, 2, 0, 2, 0, 1, 1, 3, 2, 0, 2, 1, 254, 255, 255, 255, 15));
    }

    private static void bytesOfSplice() {
        t.part("BYTES");
        t.sentence("SPLICE: at, deletes, the number of inserted ints, and their varints.");
        // No int, one, six; some of them of several bytes.
        t.given(Starts.rows(row(1, 2, 3, 4, 5, 6), row(1, 2, 3, 4, 5), row(7, 64, -65, 8, 9, 10)));
        t.is(1, "diff 1 2");
        t.is(8, "encode");
        t.isDraft(Trial.closed(3, 1, 5, 1, 0));
        t.is(1, "diff 2 1");
        t.is(9, "encode");
        t.isDraft(Trial.closed(3, 1, 5, 0, 1, 12));
        t.is(1, "diff 1 3");
        t.is(16, "encode");
        t.isDraft(Trial.closed(3, 1, 0, 6, 6, 14, 128, 1, 129, 1, 16, 18, 20));
    }

    private static void sum() {
        t.part("BYTES");
        t.sentence("Then 0, and at last the sum of all bytes before, modulo 256.");
        // The sums 255, 256 and 257.
        isSummed(-92, 255);
        isSummed(92, 0);
        isSummed(-93, 1);
        // A sum that wraps around more than once.
        t.given("snapshot", "put 0 0 MIN", "put 0 1 MIN", "put 0 2 MIN", "snapshot", "diff 0 1");
        t.is(30, "encode");
        t.is(0, "byteAt 28");
        t.is((68 + 3 * 2 + 3 + 3 + 3 * (4 * 255 + 15)) % 256, "byteAt 29");
        // The sum and 0 have to be there, and nothing behind them.
        for (int last : new int[] {67, 69, 0, 255}) {
            t.given(Starts.RICH);
            t.fed(68, 0, last);
            t.refused(-4, "decode");
        }
        t.given(Starts.RICH);
        t.fed(68, 0);
        t.refused(-4, "decode");
        t.fed(68, 0, 68, 0);
        t.refused(-4, "decode");
        t.fed(68, 1, 7, 0, 76);
        t.refused(-4, "decode");
        t.fed(68, 1, 7, 0, 0, 76);
        t.is(1, "decode");
    }

    /** The sum of the bytes of a SET of the root's slot 0 to an int of two bytes. */
    private static void isSummed(int v, int sum) {
        t.given("snapshot", "put 0 0 " + v, "snapshot", "diff 0 1");
        t.is(9, "encode");
        t.is(0, "byteAt 7");
        t.is(sum, "byteAt 8");
        t.is(1, "decode");
        t.isDelta("2 0 0 1 " + v);
        t.is(true, "cut 8", "feed " + (sum + 1) % 256);
        t.refused(-4, "decode");
        t.is(true, "cut 8", "feed " + (sum + 255) % 256);
        t.refused(-4, "decode");
    }

    private static void varints() {
        t.part("VARINT");
        t.sentence("The varint of v: with u = 2 v for v from 0 on, -2 v - 1 for a negative one, seven bits of u at a time,"
            + " the lowest first, in as few bytes as possible (at least one), and 128 added to all bytes but the last.");
        isVarint(0, 0);
        isVarint(-1, 1);
        isVarint(1, 2);
        isVarint(63, 126);
        isVarint(-64, 127);
        isVarint(64, 128, 1);
        isVarint(-65, 129, 1);
        isVarint(8191, 254, 127);
        isVarint(-8192, 255, 127);
        isVarint(8192, 128, 128, 1);
        isVarint(-8193, 129, 128, 1);
        isVarint(1048575, 254, 255, 127);
        isVarint(-1048576, 255, 255, 127);
        isVarint(1048576, 128, 128, 128, 1);
        isVarint(-1048577, 129, 128, 128, 1);
        isVarint(134217727, 254, 255, 255, 127);
        isVarint(-134217728, 255, 255, 255, 127);
        isVarint(134217728, 128, 128, 128, 128, 1);
        isVarint(-134217729, 129, 128, 128, 128, 1);
        isVarint(Integer.MAX_VALUE - 1, 252, 255, 255, 255, 15);
        isVarint(Integer.MAX_VALUE, 254, 255, 255, 255, 15);
        isVarint(Integer.MIN_VALUE + 1, 253, 255, 255, 255, 15);
        isVarint(Integer.MIN_VALUE, 255, 255, 255, 255, 15);
        // One more than an int can be, and bytes that wrap around to an int that could be.
        isNoVarint(128, 128, 128, 128, 16);
        isNoVarint(129, 128, 128, 128, 16);
        isNoVarint(255, 255, 255, 255, 31);
        isNoVarint(255, 255, 255, 255, 127);
        isNoVarint(128, 128, 128, 128, 128, 1);
        isNoVarint(128, 128, 128, 128, 128);
        isNoVarint(255, 255, 255, 255, 255);
        isNoVarint(254, 255, 255, 255, 143, 0);
        isNoVarint(128, 128, 128, 128, 128, 128, 128, 128, 128, 1);
        // A byte more than is needed.
        isNoVarint(128, 0);
        isNoVarint(254, 0);
        isNoVarint(255, 128, 0);
        isNoVarint(255, 255, 255, 128, 0);
        isNoVarint(255, 255, 255, 255, 0);
        // No last byte: the draft ends, or what follows is taken for it.
        isNoVarint();
        isNoVarint(128);
        isNoVarint(255, 255);
        t.given(Starts.RICH);
        t.fed(68, 2, 0, 0, 1, 130);
        t.refused(-4, "decode");
        t.fed(68, 3, 1, 0, 0, 2, 130, 1, 255);
        t.refused(-4, "decode");
    }

    private static void isVarint(int v, int... bytes) {
        int[] set = Starts.joined(bytes(2, 0, 0, 1), bytes);
        t.given("put 0 0 3", "snapshot", "put 0 0 " + v, "snapshot", "diff 0 1");
        t.is(set.length + 3, "encode");
        t.isDraft(Trial.closed(set));
        t.isRead(Starts.RICH, set, "2 0 0 1 " + v);
        t.isRead(Starts.RICH, Starts.joined(bytes(3, 1, 0, 0, 1), bytes), "3 1 0 0 1 " + v);
    }

    private static void isNoVarint(int... bytes) {
        t.isMalformed(Starts.RICH, Starts.joined(bytes(2, 0, 0, 1), bytes));
        t.isMalformed(Starts.RICH, Starts.joined(bytes(3, 1, 0, 0, 1), bytes));
    }

    private static void draft() {
        t.part("DRAFT");
        t.sentence("THE DRAFT is a row of at most 1200 bytes, 0 .. 255, at first none.");
        t.isDraft();
        t.refused(false, "cut 1", "feed -1", "feed 256");
        t.is(true, "cut 0", "feed 0", "feed 255");
        t.isDraft(0, 255);
        t.refused(false, "feed -1", "feed 256", "feed MIN", "feed MAX");
        isLimitedTo1200();
    }

    /** Takes more calls than the document promises anything for; with less, the limit is not met. */
    private static void isLimitedTo1200() {
        GraphDeltas g = new GraphDeltas();
        for (int i = 0; i < 1199; i++) {
            t.isSo("feed " + i, g.feed(i % 251), true);
        }
        t.isSo("byteAt 1199", g.byteAt(1199), BAD);
        t.isSo("the 1200th byte", g.feed(7), true);
        for (int b : new int[] {0, 7, 255}) {
            t.isSo("the 1201st byte", g.feed(b), false);
        }
        t.isSo("byteAt 1199", g.byteAt(1199), 7);
        t.isSo("byteAt 1200", g.byteAt(1200), BAD);
        t.isSo("cut 1201", g.cut(1201), false);
        t.isSo("cut 1200", g.cut(1200), true);
        t.isSo("decode", g.decode(), -4);
        for (int i = 0; i < 1199; i++) {
            t.isSo("byteAt " + i, g.byteAt(i), i % 251);
        }
        t.isSo("cut 1199", g.cut(1199), true);
        t.isSo("the 1200th byte", g.feed(8), true);
        t.isSo("the 1201st byte", g.feed(8), false);
        t.isSo("byteAt 1199", g.byteAt(1199), 8);
    }

    private static void roomOfDraft() {
        t.part("DRAFT");
        t.sentence("(The bytes of every delta that is a difference, or merged, have room in it.)");
        // A difference with all objects created, and as many ints of five bytes as they can hold.
        t.given("snapshot");
        t.then(Starts.TREE);
        for (int o = 5; o < 16; o++) {
            t.then(Starts.items(o, -2147483648, 2147483647, -2147483647, 2147483646, -2147483646, 2147483645));
        }
        t.is(1, "snapshot");
        t.is(41, "diff 0 1");
        t.is(3 + 15 * 3 + 15 * 5 + 11 * 35, "encode");
        t.is(41, "decode");
        t.is(2, "apply 0");
        t.is(true, "same 1 2");
        // Merged: each reference moves, and each LIST gets five ints in front and five behind its one item.
        t.given(Starts.TREE);
        for (int o = 5; o < 16; o++) {
            t.is(true, "insert " + o + " 0 5");
        }
        t.is(0, "snapshot");
        for (int side = 0; side <= 1; side++) {
            t.is(true, "restore 0");
            for (int o = 5; o < 16; o++) {
                for (int k = 0; k < 5; k++) {
                    t.is(true, "insert " + o + " " + (side + k) + " " + (side == 0 ? "MIN" : "MAX"));
                }
            }
            for (int o = 0; o < 15 * side; o++) {
                t.is(true, "link " + o / 3 + " " + o % 3 + " " + (o / 3 * 3 + (o + 1) % 3 + 1));
            }
            t.is(1 + side, "snapshot");
        }
        t.is(0, "merge 0 1 2");
        t.is(3 + 15 * 5 + 11 * 60, "encode");
        t.is(37, "decode");
        t.is(3L, "operation 36 0");
        t.is(15L, "operation 36 1");
        t.is(1L, "operation 36 2");
        t.is(5L, "operation 36 4");
        t.is(2147483647L, "operation 36 9");
        t.refused(MISFIT, "apply 0");
    }

    private static void refusedCalls() {
        t.part("Refused calls");
        t.sentence("A call that is refused (false, or a code below 0) changes nothing.");
        t.given(Starts.RICH);
        t.isConflicts(2, 11);
        t.isDelta("2 0 2 1 1", "3 1 0 0 1 13", "3 1 2 1 0");
        t.refused(false, "put 1 0 5", "put 0 3 5", "link 0 0 4", "link 0 3 1", "link 0 0 -2", "insert 1 4 5", "insert 3 0 5",
            "remove 1 3", "remove 5 0", "restore 3", "same 0 3", "same 0 1", "feed 256", "feed -1", "cut -1", "cut 21");
        t.refused(BAD, "kind 4", "kind 6", "diff 0 3", "diff 3 0", "merge 3 1 2", "merge 0 3 2", "merge 0 1 3", "conflict 2",
            "conflict -1", "apply 3", "apply -1", "byteAt 20");
        t.refused(-4, "decode");
        t.isMisfit(Starts.RICH, 0, 2, 0, 2, 1, 1, 3, 1, 4, 0, 1, 2);
        t.isMalformed(Starts.RICH, 2, 0, 2, 1, 1, 3, 1, 4, 0, 0);
        t.given(Starts.FULL);
        t.isConflicts(43);
        t.isDelta("2 4 0 1 7", "3 5 0 0 1 50");
        t.refused(FULL, "node true", "node false", "snapshot", "apply 0");
        t.refused(BAD, "kind 16", "apply 8", "diff 8 0", "diff 0 8", "merge 0 8 1", "conflict 1");
        t.refused(false, "restore 8", "same 8 0", "put 16 0 0", "put 15 0 0", "link 0 0 16", "insert 15 0 1", "insert 16 0 0",
            "remove 15 6");
        t.refused(-4, "decode");
    }

    private static void constants() {
        t.plain("The constants: BAD = -1, FULL = -2, MISFIT = -3, MALFORMED = -4: Something that is named is not there."
            + " NONE = 1099511627776L: There is no such thing.");
    }
}
