/** Each promise of the document by itself: ordinary inputs, the edges it names, wrong inputs. */
public final class PromisesTest {
    private static final long NOTHING = 8589934592L;
    private static final long REFERENCE = 4294967296L;
    private static final int MIN = Integer.MIN_VALUE;
    private static final int MAX = Integer.MAX_VALUE;
    private static final Checks CHECKS = new Checks("PromisesTest");

    public static void main(String[] args) {
        promise1NewObject();
        promise2Node();
        promise3Put();
        promise4Link();
        promise5Insert();
        promise6Remove();
        promise7Kind();
        promise8Value();
        promise9Snapshot();
        promise10Restore();
        promise11Same();
        promise12DiffOfRecords();
        promise12DiffOfLists();
        promise12KeptPairs();
        promise12Refused();
        promise13Merge();
        promise13MergedLists();
        promise13NeighbouringLists();
        promise13TouchingPlaces();
        promise14Conflict();
        promise15Operation();
        promise16Apply();
        promise16Misfits();
        promise16Places();
        promise17Encode();
        promise17Varints();
        promise18Feed();
        promise19Cut();
        promise20Decode();
        promise20Malformed();
        promise20Varints();
        promise21ByteAt();
        CHECKS.end();
    }

    private static void due(String call, long got, long want) {
        CHECKS.due(call, got, want);
    }

    private static void due(String call, boolean got, boolean want) {
        CHECKS.due(call, got, want);
    }

    // What several promises need.

    private static void makeList(GraphDeltas x, int o, int... items) {
        while (x.kind(o) > 1) {
            x.remove(o, 0);
        }
        for (int k = 0; k < items.length; k++) {
            x.insert(o, k, items[k]);
        }
    }

    /** Object 1 is a LIST in slot 0 of the root, and version 0 has it with these items. */
    private static GraphDeltas withList(int... items) {
        GraphDeltas x = new GraphDeltas();
        x.node(true);
        x.link(0, 0, 1);
        makeList(x, 1, items);
        x.snapshot();
        return x;
    }

    private static int listVersion(GraphDeltas x, int... items) {
        x.restore(0);
        makeList(x, 1, items);
        return x.snapshot();
    }

    private static void dueOperation(String what, GraphDeltas x, int k, long... cells) {
        for (int w = 0; w < cells.length; w++) {
            due(what + " operation(" + k + ", " + w + ")", x.operation(k, w), cells[w]);
        }
        due(what + " operation(" + k + ") behind", x.operation(k, cells.length), GraphDeltas.NONE);
    }

    private static void dueItems(String what, GraphDeltas x, int o, int... items) {
        due(what + " kind", x.kind(o), 1 + items.length);
        for (int k = 0; k < items.length; k++) {
            due(what + " value " + k, x.value(o, k), items[k]);
        }
    }

    private static void feedAll(GraphDeltas x, int... bytes) {
        x.cut(0);
        for (int b : bytes) {
            x.feed(b);
        }
    }

    /** Feeds 68, these bytes, 0 and the sum. */
    private static int decodeOf(GraphDeltas x, int... middle) {
        int sum = 68;
        x.cut(0);
        x.feed(68);
        for (int b : middle) {
            x.feed(b);
            sum += b;
        }
        x.feed(0);
        x.feed(sum % 256);
        return x.decode();
    }

    private static void dueBytes(String what, GraphDeltas x, int... bytes) {
        due(what + " encode", x.encode(), bytes.length);
        for (int i = 0; i < bytes.length; i++) {
            due(what + " byte " + i, x.byteAt(i), bytes[i]);
        }
        due(what + " byte behind", x.byteAt(bytes.length), GraphDeltas.BAD);
    }

    // The promises.

    private static void promise1NewObject() {
        GraphDeltas x = new GraphDeltas();
        due("1 kind(0)", x.kind(0), 0);
        due("1 kind(1)", x.kind(1), GraphDeltas.BAD);
        for (int k = 0; k < 3; k++) {
            due("1 value(0, k)", x.value(0, k), NOTHING);
        }
        due("1 no version", x.restore(0), false);
        due("1 same of none", x.same(0, 0), false);
        due("1 no operation", x.operation(0, 0), GraphDeltas.NONE);
        due("1 no conflict", x.conflict(0), GraphDeltas.BAD);
        due("1 no byte", x.byteAt(0), GraphDeltas.BAD);
        due("1 cut(1)", x.cut(1), false);
        due("1 cut(0)", x.cut(0), true);
        dueBytes("1 empty delta", x, 68, 0, 68);
        due("1 node", x.node(false), 1);
        GraphDeltas y = new GraphDeltas();
        due("1 objects are apart", y.kind(1), GraphDeltas.BAD);
    }

    private static void promise2Node() {
        GraphDeltas x = new GraphDeltas();
        for (int o = 1; o < 16; o++) {
            due("2 node", x.node(o % 2 == 1), o);
            due("2 kind", x.kind(o), o % 2);
            due("2 value", x.value(o, 0), o % 2 == 1 ? GraphDeltas.NONE : NOTHING);
        }
        due("2 node", x.node(true), GraphDeltas.FULL);
        due("2 node", x.node(false), GraphDeltas.FULL);
        due("2 kind(16)", x.kind(16), GraphDeltas.BAD);
        // Numbers are never used again, though the live graph has lost the objects.
        GraphDeltas y = new GraphDeltas();
        y.snapshot();
        y.node(true);
        y.restore(0);
        due("2 lost", y.kind(1), GraphDeltas.BAD);
        due("2 node", y.node(false), 2);
        due("2 kind", y.kind(2), 0);
        due("2 kind", y.kind(1), GraphDeltas.BAD);
    }

    private static void promise3Put() {
        GraphDeltas x = new GraphDeltas();
        x.node(true);
        x.node(false);
        due("3 put", x.put(0, 0, MIN), true);
        due("3 put", x.put(0, 2, MAX), true);
        due("3 put", x.put(2, 1, -1), true);
        due("3 value", x.value(0, 0), MIN);
        due("3 value", x.value(0, 1), NOTHING);
        due("3 value", x.value(0, 2), MAX);
        due("3 value", x.value(2, 1), -1);
        due("3 put again", x.put(2, 1, 7), true);
        due("3 value", x.value(2, 1), 7);
        int[][] wrong = {{0, -1}, {0, 3}, {0, MIN}, {0, MAX}, {1, 0}, {3, 0}, {-1, 0}, {16, 0}, {MIN, 0}, {MAX, 0}};
        for (int[] w : wrong) {
            due("3 put(" + w[0] + ", " + w[1] + ")", x.put(w[0], w[1], 5), false);
        }
        due("3 kind", x.kind(1), 1);
        due("3 unchanged", x.value(0, 0), MIN);
        due("3 unchanged", x.value(2, 0), NOTHING);
    }

    private static void promise4Link() {
        GraphDeltas x = new GraphDeltas();
        x.snapshot();
        x.node(true);
        x.node(false);
        due("4 link to a LIST", x.link(0, 0, 1), true);
        due("4 link to itself", x.link(0, 1, 0), true);
        due("4 link", x.link(2, 2, 2), true);
        due("4 value", x.value(0, 0), REFERENCE + 1);
        due("4 value", x.value(0, 1), REFERENCE);
        due("4 value", x.value(2, 2), REFERENCE + 2);
        x.put(0, 2, 3);
        due("4 link NOTHING", x.link(0, 2, -1), true);
        due("4 value", x.value(0, 2), NOTHING);
        int[][] wrong = {{0, 0, -2}, {0, 0, 3}, {0, 0, 16}, {0, 0, MIN}, {0, 0, MAX}, {0, -1, 0}, {0, 3, 0},
            {0, 3, -1}, {1, 0, 0}, {1, 0, -1}, {3, 0, 0}, {-1, 0, 0}, {16, 0, -1}, {MAX, 0, 0}};
        for (int[] w : wrong) {
            due("4 link(" + w[0] + ", " + w[1] + ", " + w[2] + ")", x.link(w[0], w[1], w[2]), false);
        }
        due("4 unchanged", x.value(0, 0), REFERENCE + 1);
        x.restore(0);
        due("4 link to what the live graph has not", x.link(0, 0, 1), false);
        due("4 unchanged", x.value(0, 0), NOTHING);
    }

    private static void promise5Insert() {
        GraphDeltas x = new GraphDeltas();
        x.node(true);
        due("5 insert", x.insert(1, 1, 5), false);
        due("5 insert", x.insert(1, 0, 5), true);
        due("5 insert", x.insert(1, 0, MIN), true);
        due("5 insert", x.insert(1, 2, MAX), true);
        due("5 insert", x.insert(1, 1, 0), true);
        dueItems("5", x, 1, MIN, 0, 5, MAX);
        int[][] wrong = {{1, 5}, {1, -1}, {1, MIN}, {1, MAX}, {0, 0}, {2, 0}, {-1, 0}, {16, 0}, {MIN, 0}, {MAX, 0}};
        for (int[] w : wrong) {
            due("5 insert(" + w[0] + ", " + w[1] + ")", x.insert(w[0], w[1], 5), false);
        }
        x.insert(1, 4, 8);
        due("5 sixth", x.insert(1, 5, 9), true);
        due("5 seventh", x.insert(1, 6, 9), false);
        due("5 seventh", x.insert(1, 0, 9), false);
        dueItems("5", x, 1, MIN, 0, 5, MAX, 8, 9);
    }

    private static void promise6Remove() {
        GraphDeltas x = new GraphDeltas();
        x.node(true);
        due("6 of none", x.remove(1, 0), false);
        makeList(x, 1, 1, 2, 3, 4, 5, 6);
        int[][] wrong = {{1, 6}, {1, -1}, {1, MIN}, {1, MAX}, {0, 0}, {2, 0}, {-1, 0}, {16, 0}, {MAX, 0}};
        for (int[] w : wrong) {
            due("6 remove(" + w[0] + ", " + w[1] + ")", x.remove(w[0], w[1]), false);
        }
        due("6 remove", x.remove(1, 5), true);
        due("6 remove", x.remove(1, 0), true);
        due("6 remove", x.remove(1, 1), true);
        dueItems("6", x, 1, 2, 4, 5);
        due("6 behind", x.remove(1, 3), false);
        due("6 insert again", x.insert(1, 3, 9), true);
        dueItems("6", x, 1, 2, 4, 5, 9);
        // The last object there can be, with all the items it can have.
        for (int o = 2; o < 16; o++) {
            x.node(true);
        }
        makeList(x, 15, 1, 2, 3, 4, 5, 6);
        due("6 remove", x.remove(15, 2), true);
        dueItems("6", x, 15, 1, 2, 4, 5, 6);
    }

    private static void promise7Kind() {
        GraphDeltas x = new GraphDeltas();
        x.node(true);
        x.node(false);
        x.put(2, 0, 1);
        due("7 RECORD", x.kind(0), 0);
        due("7 RECORD", x.kind(2), 0);
        for (int n = 0; n <= 6; n++) {
            due("7 LIST", x.kind(1), 1 + n);
            x.insert(1, n, n);
        }
        for (int o : new int[] {-1, 3, 15, 16, MIN, MAX}) {
            due("7 kind(" + o + ")", x.kind(o), GraphDeltas.BAD);
        }
    }

    private static void promise8Value() {
        GraphDeltas x = new GraphDeltas();
        x.node(true);
        makeList(x, 1, MIN, -1, MAX);
        x.put(0, 0, MIN);
        x.link(0, 1, 1);
        due("8 slot", x.value(0, 0), -2147483648L);
        due("8 slot", x.value(0, 1), 4294967297L);
        due("8 slot", x.value(0, 2), 8589934592L);
        due("8 place", x.value(1, 0), -2147483648L);
        due("8 place", x.value(1, 1), -1);
        due("8 place", x.value(1, 2), 2147483647L);
        int[][] none = {{0, 3}, {0, -1}, {0, MAX}, {0, MIN}, {1, 3}, {1, -1}, {1, MAX}, {1, MIN},
            {2, 0}, {-1, 0}, {16, 0}, {MAX, 0}, {MIN, 0}};
        for (int[] n : none) {
            due("8 value(" + n[0] + ", " + n[1] + ")", x.value(n[0], n[1]), 1099511627776L);
        }
    }

    private static void promise9Snapshot() {
        GraphDeltas x = new GraphDeltas();
        for (int o = 1; o < 16; o++) {
            x.node(o == 15);
        }
        // A chain from the highest numbers down and back up, with a ring at its end.
        x.link(0, 2, 14);
        x.link(14, 1, 13);
        x.link(13, 0, 2);
        x.link(2, 2, 14);
        x.link(2, 0, 15);
        x.insert(15, 0, 77);
        // Objects 3 and 4 refer to one another and to the root, and nothing refers to them.
        x.link(3, 0, 4);
        x.link(4, 0, 3);
        x.link(4, 1, 0);
        due("9 snapshot", x.snapshot(), 0);
        due("9 live stays", x.kind(3), 0);
        due("9 live stays", x.value(3, 0), REFERENCE + 4);
        x.insert(15, 0, 5);
        due("9 snapshot", x.snapshot(), 1);
        x.restore(0);
        for (int o = 0; o < 15; o++) {
            boolean reached = o == 0 || o == 2 || o == 13 || o == 14;
            due("9 kind(" + o + ")", x.kind(o), reached ? 0 : GraphDeltas.BAD);
        }
        due("9 contents", x.value(13, 0), REFERENCE + 2);
        dueItems("9 versions never change", x, 15, 77);
        x.restore(1);
        dueItems("9", x, 15, 5, 77);
        for (int v = 2; v < 8; v++) {
            due("9 snapshot", x.snapshot(), v);
        }
        due("9 snapshot", x.snapshot(), GraphDeltas.FULL);
        due("9 no ninth", x.restore(8), false);
        // A path through all sixteen objects, against the order of their numbers.
        GraphDeltas y = new GraphDeltas();
        for (int o = 1; o < 16; o++) {
            y.node(false);
        }
        y.link(0, 0, 15);
        for (int o = 15; o > 1; o--) {
            y.link(o, 1, o - 1);
        }
        y.snapshot();
        y.restore(0);
        due("9 long path", y.kind(1), 0);
        due("9 long path", y.value(2, 1), REFERENCE + 1);
    }

    private static void promise10Restore() {
        GraphDeltas x = withList(1, 2);
        x.put(0, 1, 5);
        x.node(false);
        x.link(0, 2, 2);
        due("10 snapshot", x.snapshot(), 1);
        due("10 restore", x.restore(0), true);
        due("10 slot", x.value(0, 1), NOTHING);
        due("10 slot", x.value(0, 2), NOTHING);
        due("10 object", x.kind(2), GraphDeltas.BAD);
        makeList(x, 1, 9);
        due("10 restore", x.restore(1), true);
        dueItems("10", x, 1, 1, 2);
        due("10 object", x.kind(2), 0);
        due("10 slot", x.value(0, 1), 5);
        for (int v : new int[] {-1, 2, 8, MIN, MAX}) {
            due("10 restore(" + v + ")", x.restore(v), false);
        }
        due("10 unchanged", x.value(0, 1), 5);
        x.put(0, 1, 6);
        x.restore(1);
        due("10 version stays", x.value(0, 1), 5);
    }

    private static void promise11Same() {
        GraphDeltas x = withList(1, 2);
        due("11 itself", x.same(0, 0), true);
        x.node(false);
        x.snapshot();
        due("11 the unreached do not count", x.same(0, 1), true);
        due("11 other order of items", x.same(0, listVersion(x, 2, 1)), false);
        due("11 more items", x.same(0, listVersion(x, 1, 2, 0)), false);
        due("11 again", x.same(0, listVersion(x, 1, 2)), true);
        x.restore(0);
        x.put(0, 1, 0);
        due("11 int 0 is not NOTHING", x.same(0, x.snapshot()), false);
        x.link(0, 1, 0);
        due("11 reference 0 is not int 0", x.same(5, x.snapshot()), false);
        due("11 reference 0 is not NOTHING", x.same(0, 6), false);
        for (int v : new int[] {-1, 7, 8, MIN, MAX}) {
            due("11 same(0, " + v + ")", x.same(0, v), false);
            due("11 same(" + v + ", 0)", x.same(v, 0), false);
            due("11 same(" + v + ", " + v + ")", x.same(v, v), false);
        }
        GraphDeltas y = new GraphDeltas();
        y.node(false);
        y.node(false);
        y.link(0, 0, 1);
        y.link(0, 1, 2);
        y.link(1, 0, 2);
        y.link(2, 0, 1);
        y.snapshot();
        y.link(0, 0, 2);
        y.link(0, 1, 1);
        y.snapshot();
        due("11 other objects in the slots", y.same(0, 1), false);
    }

    private static void promise12DiffOfRecords() {
        GraphDeltas x = new GraphDeltas();
        x.node(false);
        x.node(true);
        x.node(false);
        x.put(0, 0, 4);
        x.put(0, 1, 5);
        x.link(0, 2, 1);
        x.put(1, 0, 0);
        x.put(1, 1, 1);
        x.snapshot();
        x.link(0, 0, 2);
        x.link(0, 2, 3);
        x.link(3, 0, 0);
        x.put(3, 2, -6);
        x.snapshot();
        due("12 diff", x.diff(0, 1), 6);
        dueOperation("12", x, 0, 1, 2, 1);
        dueOperation("12", x, 1, 1, 3, 0);
        dueOperation("12", x, 2, 2, 0, 0, 2, 2);
        dueOperation("12", x, 3, 2, 0, 2, 2, 3);
        dueOperation("12", x, 4, 2, 3, 0, 2, 0);
        dueOperation("12", x, 5, 2, 3, 2, 1, -6);
        due("12 no more", x.operation(6, 0), GraphDeltas.NONE);
        // Back: 1 is created with its ints, even the 0; what b has not is not told.
        due("12 diff", x.diff(1, 0), 5);
        dueOperation("12", x, 0, 1, 1, 0);
        dueOperation("12", x, 1, 2, 0, 0, 1, 4);
        dueOperation("12", x, 2, 2, 0, 2, 2, 1);
        dueOperation("12", x, 3, 2, 1, 0, 1, 0);
        dueOperation("12", x, 4, 2, 1, 1, 1, 1);
        due("12 of itself", x.diff(1, 1), 0);
        due("12 no more", x.operation(0, 0), GraphDeltas.NONE);
        // The same number as an int, as a reference and as NOTHING.
        GraphDeltas y = new GraphDeltas();
        y.put(0, 0, 0);
        y.link(0, 1, 0);
        y.snapshot();
        y.link(0, 0, 0);
        y.link(0, 1, -1);
        y.put(0, 2, 0);
        y.snapshot();
        due("12 diff", y.diff(0, 1), 3);
        dueOperation("12", y, 0, 2, 0, 0, 2, 0);
        dueOperation("12", y, 1, 2, 0, 1, 0, 0);
        dueOperation("12", y, 2, 2, 0, 2, 1, 0);
    }

    private static void promise12DiffOfLists() {
        GraphDeltas x = withList(1, 2, 3, 4);
        listVersion(x, 1, 2, 3, 4, 5, 6);
        due("12 behind", x.diff(0, 1), 1);
        dueOperation("12 behind", x, 0, 3, 1, 4, 0, 2, 5, 6);
        due("12 behind back", x.diff(1, 0), 1);
        dueOperation("12 behind back", x, 0, 3, 1, 4, 2, 0);
        listVersion(x, 7, 2, 8, 9, 3);
        due("12 three", x.diff(0, 2), 3);
        dueOperation("12 three", x, 0, 3, 1, 0, 1, 1, 7);
        dueOperation("12 three", x, 1, 3, 1, 2, 0, 2, 8, 9);
        dueOperation("12 three", x, 2, 3, 1, 3, 1, 0);
        listVersion(x);
        due("12 all away", x.diff(0, 3), 1);
        dueOperation("12 all away", x, 0, 3, 1, 0, 4, 0);
        due("12 all new", x.diff(3, 1), 1);
        dueOperation("12 all new", x, 0, 3, 1, 0, 0, 6, 1, 2, 3, 4, 5, 6);
        due("12 of none", x.diff(3, 3), 0);
        // A LIST that a has not: all of its items are inserted; an empty one is created alone.
        x.node(true);
        x.restore(0);
        x.node(true);
        x.node(true);
        x.link(0, 1, 3);
        x.link(0, 2, 4);
        x.insert(4, 0, -1);
        x.snapshot();
        due("12 new LISTs", x.diff(0, 4), 5);
        dueOperation("12 new LISTs", x, 0, 1, 3, 1);
        dueOperation("12 new LISTs", x, 1, 1, 4, 1);
        dueOperation("12 new LISTs", x, 2, 2, 0, 1, 2, 3);
        dueOperation("12 new LISTs", x, 3, 2, 0, 2, 2, 4);
        dueOperation("12 new LISTs", x, 4, 3, 4, 0, 0, 1, -1);
    }

    /** Which of several choices of as many pairs is kept. */
    private static void promise12KeptPairs() {
        // (0, 1) or (1, 0) alone can be kept: the lesser i.
        GraphDeltas x = withList(1, 2);
        listVersion(x, 2, 1);
        due("12 lesser i", x.diff(0, 1), 2);
        dueOperation("12 lesser i", x, 0, 3, 1, 0, 0, 1, 2);
        dueOperation("12 lesser i", x, 1, 3, 1, 1, 1, 0);
        // One old 5, three new ones: the least j.
        x = withList(5);
        listVersion(x, 5, 5, 5);
        due("12 lesser j", x.diff(0, 1), 1);
        dueOperation("12 lesser j", x, 0, 3, 1, 1, 0, 2, 5, 5);
        due("12 first of the old", x.diff(1, 0), 1);
        dueOperation("12 first of the old", x, 0, 3, 1, 1, 2, 0);
        // The least first pair is not taken where it costs a pair.
        x = withList(1, 2, 3);
        listVersion(x, 2, 3, 1);
        due("12 as many as possible", x.diff(0, 1), 2);
        dueOperation("12 as many as possible", x, 0, 3, 1, 0, 1, 0);
        dueOperation("12 as many as possible", x, 1, 3, 1, 3, 0, 1, 1);
        // What is left on both sides behind a pair counts for nothing.
        x = withList(1, 2, 3);
        listVersion(x, 2, 1);
        due("12 lesser i", x.diff(0, 1), 2);
        dueOperation("12 lesser i", x, 0, 3, 1, 0, 0, 1, 2);
        dueOperation("12 lesser i", x, 1, 3, 1, 1, 2, 0);
        // 1 2 1 2 to 2 1: (0, 1) would be lost alone; (1, 0) (2, 1) is kept.
        x = withList(1, 2, 1, 2);
        listVersion(x, 2, 1);
        due("12 middle", x.diff(0, 1), 2);
        dueOperation("12 middle", x, 0, 3, 1, 0, 1, 0);
        dueOperation("12 middle", x, 1, 3, 1, 3, 1, 0);
        // 1 2 3 to 1 3 2 : (0, 0) then the lesser i is (1, 2), not (2, 1).
        x = withList(1, 2, 3);
        listVersion(x, 1, 3, 2);
        due("12 second pair", x.diff(0, 1), 2);
        dueOperation("12 second pair", x, 0, 3, 1, 1, 0, 1, 3);
        dueOperation("12 second pair", x, 1, 3, 1, 2, 1, 0);
    }

    private static void promise12Refused() {
        GraphDeltas x = withList(1);
        listVersion(x, 2);
        x.diff(0, 1);
        for (int v : new int[] {-1, 2, 8, MIN, MAX}) {
            due("12 diff(0, " + v + ")", x.diff(0, v), GraphDeltas.BAD);
            due("12 diff(" + v + ", 0)", x.diff(v, 0), GraphDeltas.BAD);
        }
        dueOperation("12 stays", x, 0, 3, 1, 0, 1, 1, 2);
    }

    private static void promise13Merge() {
        GraphDeltas x = new GraphDeltas();
        for (int o = 1; o <= 4; o++) {
            x.node(o == 4);
        }
        x.put(0, 1, 1);
        x.link(0, 2, 1);
        x.snapshot();
        x.link(0, 0, 4);
        x.link(1, 0, 3);
        x.put(3, 2, 8);
        due("13 x", x.snapshot(), 1);
        x.link(1, 0, 3);
        x.link(1, 1, 2);
        x.put(0, 1, 9);
        x.insert(4, 0, 6);
        due("13 y", x.snapshot(), 2);
        // y has all of x's operations and some more; both orders give the same delta.
        for (int turn = 0; turn < 2; turn++) {
            due("13 merge", turn == 0 ? x.merge(0, 1, 2) : x.merge(0, 2, 1), 0);
            dueOperation("13", x, 0, 1, 2, 0);
            dueOperation("13", x, 1, 1, 3, 0);
            dueOperation("13", x, 2, 1, 4, 1);
            dueOperation("13", x, 3, 2, 0, 0, 2, 4);
            dueOperation("13", x, 4, 2, 0, 1, 1, 9);
            dueOperation("13", x, 5, 2, 1, 0, 2, 3);
            dueOperation("13", x, 6, 2, 1, 1, 2, 2);
            dueOperation("13", x, 7, 2, 3, 2, 1, 8);
            dueOperation("13", x, 8, 3, 4, 0, 0, 1, 6);
            due("13 no more", x.operation(9, 0), GraphDeltas.NONE);
            due("13 no conflict", x.conflict(0), GraphDeltas.BAD);
        }
        due("13 apply", x.apply(0), 3);
        due("13 same", x.same(3, 2), true);
        due("13 nothing to do", x.merge(1, 1, 1), 0);
        due("13 empty", x.operation(0, 0), GraphDeltas.NONE);
        due("13 one side alone", x.merge(1, 1, 2), 0);
        dueOperation("13 one side alone", x, 0, 1, 2, 0);
        for (int v : new int[] {-1, 4, 8, MIN, MAX}) {
            due("13 merge(v, 0, 1)", x.merge(v, 0, 1), GraphDeltas.BAD);
            due("13 merge(0, v, 1)", x.merge(0, v, 1), GraphDeltas.BAD);
            due("13 merge(0, 0, v)", x.merge(0, 0, v), GraphDeltas.BAD);
        }
        dueOperation("13 stays", x, 0, 1, 2, 0);
    }

    private static void promise13MergedLists() {
        // One side: 2 by 9, 5 by 8. The other: a 6 before 4, 5 by 8.
        GraphDeltas y = withList(1, 2, 3, 4, 5);
        listVersion(y, 1, 9, 3, 4, 8);
        listVersion(y, 1, 2, 3, 6, 4, 8);
        due("13 lists", y.merge(0, 1, 2), 0);
        dueOperation("13 lists", y, 0, 3, 1, 1, 1, 1, 9);
        dueOperation("13 lists", y, 1, 3, 1, 3, 0, 1, 6);
        dueOperation("13 lists", y, 2, 3, 1, 4, 1, 1, 8);
        due("13 no more", y.operation(3, 0), GraphDeltas.NONE);
        due("13 apply", y.apply(0), 3);
        y.restore(3);
        dueItems("13", y, 1, 1, 9, 3, 6, 4, 8);
        // Merged, the list would have eight items: no conflict, but it does not fit.
        GraphDeltas z = withList(1, 2, 3, 4);
        listVersion(z, 8, 8, 1, 2, 3, 4);
        listVersion(z, 1, 2, 3, 4, 9, 9);
        due("13 too long", z.merge(0, 1, 2), 0);
        due("13 too long", z.operation(1, 2), 4);
        due("13 too long", z.apply(0), GraphDeltas.MISFIT);
    }

    /** The end of one LIST on the one side, the front of the next one on the other side. */
    private static void promise13NeighbouringLists() {
        GraphDeltas x = withList(1, 2, 3, 4, 5);
        x.node(true);
        x.link(0, 1, 2);
        makeList(x, 2, 1, 2, 3, 4, 5);
        due("13 z", x.snapshot(), 1);
        x.insert(1, 5, 7);
        x.insert(2, 0, 8);
        due("13 x", x.snapshot(), 2);
        x.restore(1);
        x.insert(1, 0, 6);
        x.insert(2, 5, 9);
        due("13 y", x.snapshot(), 3);
        for (int turn = 0; turn < 2; turn++) {
            due("13 merge", turn == 0 ? x.merge(1, 2, 3) : x.merge(1, 3, 2), 0);
            dueOperation("13", x, 0, 3, 1, 0, 0, 1, 6);
            dueOperation("13", x, 1, 3, 1, 5, 0, 1, 7);
            dueOperation("13", x, 2, 3, 2, 0, 0, 1, 8);
            dueOperation("13", x, 3, 3, 2, 5, 0, 1, 9);
            due("13 no more", x.operation(4, 0), GraphDeltas.NONE);
        }
        // One side of each LIST alone, at all pairs of places.
        for (int p = 0; p <= 5; p++) {
            for (int q = 0; q <= 5; q++) {
                dueNeighbours(p, q);
            }
        }
    }

    private static void dueNeighbours(int p, int q) {
        GraphDeltas x = withList(1, 2, 3, 4, 5);
        x.node(true);
        x.link(0, 1, 2);
        makeList(x, 2, 1, 2, 3, 4, 5);
        x.snapshot();
        x.insert(1, p, 7);
        x.snapshot();
        x.restore(1);
        x.insert(2, q, 8);
        x.snapshot();
        for (int turn = 0; turn < 2; turn++) {
            due("13 merge", turn == 0 ? x.merge(1, 2, 3) : x.merge(1, 3, 2), 0);
            dueOperation("13 neighbours", x, 0, 3, 1, p, 0, 1, 7);
            dueOperation("13 neighbours", x, 1, 3, 2, q, 0, 1, 8);
            due("13 no more", x.operation(2, 0), GraphDeltas.NONE);
        }
    }

    private static int mergeOfLists(int[] z, int[] x, int[] y) {
        GraphDeltas g = withList(z);
        listVersion(g, x);
        listVersion(g, y);
        int there = g.merge(0, 1, 2);
        int back = g.merge(0, 2, 1);
        due("13 both orders", there, back);
        return there;
    }

    private static void promise13TouchingPlaces() {
        int[] z = {1, 2, 3, 4};
        due("13 at of x is the end of y", mergeOfLists(z, new int[] {1, 2, 9, 3, 4}, new int[] {1, 3, 4}), 1);
        due("13 one beyond", mergeOfLists(z, new int[] {1, 2, 3, 9, 4}, new int[] {1, 3, 4}), 0);
        due("13 touch in front", mergeOfLists(z, new int[] {1, 9, 2, 3, 4}, new int[] {1, 3, 4}), 1);
        due("13 one before", mergeOfLists(z, new int[] {9, 1, 2, 3, 4}, new int[] {1, 3, 4}), 0);
        due("13 inside", mergeOfLists(z, new int[] {1, 2, 9, 3, 4}, new int[] {1, 4}), 1);
        due("13 overlap", mergeOfLists(z, new int[] {1, 4}, new int[] {1, 2}), 1);
        due("13 deletes that touch", mergeOfLists(z, new int[] {3, 4}, new int[] {1, 2, 4}), 1);
        due("13 deletes apart", mergeOfLists(z, new int[] {2, 3, 4}, new int[] {1, 2, 4}), 0);
        due("13 the same", mergeOfLists(z, new int[] {1, 7, 4}, new int[] {1, 7, 4}), 0);
        due("13 other ints", mergeOfLists(z, new int[] {1, 7, 4}, new int[] {1, 8, 4}), 1);
        due("13 more ints", mergeOfLists(z, new int[] {1, 7, 4}, new int[] {1, 7, 8, 4}), 1);
        due("13 other deletes", mergeOfLists(z, new int[] {1, 7, 4}, new int[] {1, 7, 3, 4}), 1);
        due("13 other at", mergeOfLists(z, new int[] {7, 2, 3, 4}, new int[] {1, 7, 3, 4}), 1);
        due("13 one same, one not", mergeOfLists(z, new int[] {7, 2, 3, 8}, new int[] {7, 2, 3, 9}), 1);
        due("13 twice, counted once", mergeOfLists(z, new int[] {7, 2, 3, 8}, new int[] {6, 2, 3, 9}), 1);
    }

    private static void promise14Conflict() {
        GraphDeltas x = new GraphDeltas();
        for (int o = 1; o <= 3; o++) {
            x.node(o == 2);
        }
        x.link(0, 0, 1);
        x.link(0, 1, 2);
        x.link(1, 2, 3);
        makeList(x, 2, 1, 2, 3);
        x.snapshot();
        x.put(0, 2, 0);
        x.put(1, 0, 1);
        x.put(3, 0, 5);
        x.put(3, 1, 5);
        x.put(3, 2, 5);
        makeList(x, 2, 7, 2, 8);
        x.snapshot();
        x.restore(0);
        x.link(0, 2, 0);
        x.link(1, 0, 1);
        x.put(3, 0, 6);
        x.put(3, 1, 5);
        x.put(3, 2, 6);
        makeList(x, 2, 9, 2, 6);
        x.snapshot();
        x.diff(0, 1);
        due("14 merge", x.merge(0, 1, 2), 5);
        int[] numbers = {2, 8, 19, 24, 26, GraphDeltas.BAD};
        for (int turn = 0; turn < 2; turn++) {
            for (int k = 0; k < numbers.length; k++) {
                due("14 conflict(" + k + ")", x.conflict(k), numbers[k]);
            }
            due("14 the delta stays", x.operation(0, 4), 0);
            due("14 the delta stays", x.operation(1, 1), 1);
            due("14 a refused merge changes nothing", x.merge(0, 1, 3), GraphDeltas.BAD);
            x.diff(0, 1);
        }
        for (int k : new int[] {-1, 48, 49, MIN, MAX}) {
            due("14 conflict(" + k + ")", x.conflict(k), GraphDeltas.BAD);
        }
        due("14 merge", x.merge(0, 1, 1), 0);
        due("14 of the latest merge", x.conflict(0), GraphDeltas.BAD);
        // All slots of sixteen RECORDs at once.
        GraphDeltas y = new GraphDeltas();
        for (int o = 1; o < 16; o++) {
            y.node(false);
            y.link((o - 1) / 3, (o - 1) % 3, o);
        }
        y.snapshot();
        for (int side = 1; side <= 2; side++) {
            y.restore(0);
            for (int o = 15; o >= 5; o--) {
                for (int k = 0; k < 3; k++) {
                    y.put(o, k, side);
                }
            }
            y.snapshot();
        }
        due("14 many", y.merge(0, 1, 2), 33);
        for (int k = 0; k < 33; k++) {
            due("14 many", y.conflict(k), 8 * (5 + k / 3) + k % 3);
        }
        due("14 many", y.conflict(33), GraphDeltas.BAD);
        // A slot that one side alone sets, and one that both set to NOTHING.
        GraphDeltas z = new GraphDeltas();
        z.put(0, 0, 1);
        z.snapshot();
        z.link(0, 0, -1);
        z.snapshot();
        z.put(0, 1, 1);
        z.snapshot();
        z.link(0, 0, 0);
        z.snapshot();
        due("14 the same", z.merge(0, 1, 2), 0);
        due("14 other contents", z.merge(0, 1, 3), 1);
        due("14 other contents", z.conflict(0), 0);
    }

    private static void promise15Operation() {
        GraphDeltas x = withList(1);
        x.node(true);
        x.put(0, 1, MIN);
        x.link(0, 2, 2);
        makeList(x, 2, 1, 2, 3, 4, 5, MIN);
        makeList(x, 1);
        x.snapshot();
        due("15 diff", x.diff(0, 1), 5);
        dueOperation("15 CREATE", x, 0, 1, 2, 1);
        dueOperation("15 SET", x, 1, 2, 0, 1, 1, MIN);
        dueOperation("15 SET", x, 2, 2, 0, 2, 2, 2);
        dueOperation("15 SPLICE", x, 3, 3, 1, 0, 1, 0);
        dueOperation("15 SPLICE", x, 4, 3, 2, 0, 0, 6, 1, 2, 3, 4, 5, MIN);
        int[][] none = {{0, 3}, {0, 4}, {0, 5}, {1, 5}, {1, 6}, {3, 5}, {4, 11}, {4, 12}, {5, 0}, {-1, 0},
            {0, -1}, {MIN, 0}, {MAX, 0}, {0, MIN}, {0, MAX}, {4, MAX}, {4, MIN}, {127, 0}, {128, 0}};
        for (int[] n : none) {
            due("15 operation(" + n[0] + ", " + n[1] + ")", x.operation(n[0], n[1]), GraphDeltas.NONE);
        }
        x.diff(1, 0);
        dueOperation("15 SET to NOTHING", x, 0, 2, 0, 1, 0, 0);
    }

    private static void promise16Apply() {
        GraphDeltas x = withList(1, 2, 3);
        x.node(false);
        x.node(true);
        x.put(0, 1, 5);
        x.link(0, 2, 2);
        x.link(2, 0, 3);
        makeList(x, 3, 4, 4);
        makeList(x, 1, 0, 2);
        x.snapshot();
        x.diff(0, 1);
        due("16 apply", x.apply(0), 2);
        due("16 same", x.same(1, 2), true);
        due("16 created ones are in version 1", x.apply(1), GraphDeltas.MISFIT);
        x.diff(1, 0);
        due("16 back", x.apply(1), 3);
        due("16 the unreached are left out", x.same(0, 3), true);
        due("16 the live graph stays", x.kind(3), 3);
        due("16 the delta stays", x.operation(0, 0), 2);
        for (int v : new int[] {-1, 4, 8, MIN, MAX}) {
            due("16 apply(" + v + ")", x.apply(v), GraphDeltas.BAD);
        }
        decodeOf(x);
        for (int v = 4; v < 8; v++) {
            due("16 empty delta", x.apply(0), v);
            due("16 empty delta", x.same(0, v), true);
        }
        due("16 FULL", x.apply(0), GraphDeltas.FULL);
        due("16 BAD before FULL", x.apply(8), GraphDeltas.BAD);
        decodeOf(x, 1, 1, 1);
        due("16 MISFIT before FULL", x.apply(0), GraphDeltas.MISFIT);
        due("16 no ninth", x.same(0, 8), false);
    }

    private static void dueMisfit(String what, GraphDeltas x, int... middle) {
        due("16 decode " + what, decodeOf(x, middle) > 0, true);
        due("16 " + what, x.apply(0), GraphDeltas.MISFIT);
    }

    private static void promise16Misfits() {
        GraphDeltas x = withList(1, 2, 3);
        x.node(false);
        x.node(true);
        x.node(false);
        x.link(0, 1, 4);
        x.snapshot();
        dueMisfit("a created one that v has", x, 1, 1, 1);
        dueMisfit("a created one that was not made", x, 1, 5, 0);
        dueMisfit("a created one of the other kind", x, 1, 2, 1);
        dueMisfit("a created one of the other kind", x, 1, 3, 0);
        dueMisfit("a SET of what v has not", x, 2, 2, 0, 0);
        dueMisfit("a SET of what was not made", x, 2, 15, 0, 0);
        dueMisfit("a SET of a LIST", x, 2, 1, 0, 0);
        dueMisfit("a SPLICE of a RECORD", x, 3, 0, 0, 0, 1, 2);
        dueMisfit("a SPLICE of what v has not", x, 3, 3, 0, 0, 1, 2);
        dueMisfit("a reference to what v has not", x, 2, 0, 1, 2, 2);
        dueMisfit("a reference to what was not made", x, 2, 0, 1, 2, 15);
        dueMisfit("a wrong operation behind a right one", x, 2, 0, 1, 0, 2, 0, 2, 2, 2);
        dueMisfit("an end beyond the items", x, 3, 1, 3, 1, 0);
        dueMisfit("an at beyond the items", x, 3, 1, 4, 0, 1, 2);
        dueMisfit("an end beyond the items of a created one", x, 1, 3, 1, 3, 3, 0, 1, 1, 2);
        dueMisfit("an at beyond the items of a created one", x, 1, 3, 1, 3, 3, 0, 0, 1, 2, 3, 3, 1, 0, 1, 2);
        dueMisfit("seven items", x, 3, 1, 3, 0, 4, 2, 2, 2, 2);
        dueMisfit("seven items of several SPLICEs", x, 3, 1, 0, 0, 3, 2, 2, 2, 3, 1, 1, 1, 1, 0, 3, 1, 3, 0, 1, 2);
        due("16 the reference of version 1", decodeOf(x, 2, 0, 2, 2, 4), 1);
        due("16 in version 1", x.apply(1), 2);
        due("16 in version 0", x.apply(0), GraphDeltas.MISFIT);
        // Fitting neighbours of the misfits.
        due("16 decode", decodeOf(x, 1, 2, 0, 1, 3, 1, 2, 0, 1, 2, 2, 2, 2, 0, 2, 3, 3, 3, 0, 0, 1, 2), 5);
        due("16 apply", x.apply(0), 3);
        x.restore(3);
        due("16 kind", x.kind(2), 0);
        dueItems("16", x, 3, 1);
        due("16 decode", decodeOf(x, 3, 1, 3, 0, 3, 2, 2, 2), 1);
        due("16 six items", x.apply(0), 4);
        due("16 decode", decodeOf(x, 3, 1, 0, 3, 6, 2, 4, 6, 8, 10, 12), 1);
        due("16 six items", x.apply(0), 5);
        x.restore(5);
        dueItems("16", x, 1, 1, 2, 3, 4, 5, 6);
        // Created, but not reached in the end.
        due("16 decode", decodeOf(x, 1, 2, 0, 2, 2, 0, 2, 1), 2);
        due("16 apply", x.apply(0), 6);
        due("16 left out", x.same(0, 6), true);
    }

    private static void promise16Places() {
        // All places are those of the list before; the row may not need more room on the way.
        GraphDeltas x = withList(1, 2, 3, 4, 5, 6);
        due("16 decode", decodeOf(x, 3, 1, 0, 3, 0, 3, 1, 6, 0, 3, 14, 16, 18), 2);
        due("16 apply", x.apply(0), 1);
        x.restore(1);
        dueItems("16 from the front", x, 1, 4, 5, 6, 7, 8, 9);
        due("16 decode", decodeOf(x, 3, 1, 0, 0, 3, 14, 16, 18, 3, 1, 3, 3, 0), 2);
        due("16 apply", x.apply(0), 2);
        x.restore(2);
        dueItems("16 from behind", x, 1, 7, 8, 9, 1, 2, 3);
        due("16 decode", decodeOf(x, 3, 1, 0, 1, 0, 3, 1, 2, 1, 2, 20, 22, 3, 1, 4, 2, 1, 24), 3);
        due("16 apply", x.apply(0), 3);
        x.restore(3);
        dueItems("16 in the midst", x, 1, 2, 10, 11, 4, 12);
        x.restore(0);
        dueItems("16 the version stays", x, 1, 1, 2, 3, 4, 5, 6);
        // A SET takes away the only way to a LIST that is spliced at the same time.
        due("16 decode", decodeOf(x, 2, 0, 0, 1, 9, 3, 1, 0, 1, 0), 2);
        due("16 apply", x.apply(0), 4);
        x.restore(4);
        due("16 slot", x.value(0, 0), -5);
        due("16 left out", x.kind(1), GraphDeltas.BAD);
    }

    private static void promise17Encode() {
        GraphDeltas x = withList(1, 2);
        x.node(false);
        x.put(0, 1, 64);
        x.link(0, 2, 2);
        x.put(2, 0, -1);
        makeList(x, 1, 2, -64, -65);
        x.snapshot();
        x.diff(0, 1);
        int[] bytes = {68, 1, 2, 0, 2, 0, 1, 1, 128, 1, 2, 0, 2, 2, 2, 3, 1, 0, 1, 0, 3, 1, 2, 0, 2, 127, 129, 1,
            2, 2, 0, 1, 1, 0, 0};
        int sum = 0;
        for (int i = 0; i + 1 < bytes.length; i++) {
            sum += bytes[i];
        }
        bytes[bytes.length - 1] = sum % 256;
        dueBytes("17", x, bytes);
        dueBytes("17 again", x, bytes);
        x.diff(1, 0);
        dueBytes("17 NOTHING", x, 68, 2, 0, 1, 0, 2, 0, 2, 0, 3, 1, 0, 0, 1, 2, 3, 1, 1, 2, 0, 0, 89);
        feedAll(x, 1, 2, 3);
        x.diff(0, 0);
        dueBytes("17 empty", x, 68, 0, 68);
        // The longest difference of a graph: what decoding it gives is the same again.
        GraphDeltas y = new GraphDeltas();
        for (int o = 1; o < 16; o++) {
            y.node(o >= 5);
        }
        y.snapshot();
        for (int o = 1; o < 16; o++) {
            y.link((o - 1) / 3, (o - 1) % 3, o);
            for (int k = 0; k < 6; k++) {
                y.insert(o, k, MIN + k);
            }
        }
        y.snapshot();
        due("17 long diff", y.diff(0, 1), 41);
        due("17 long", y.encode(), 1 + 15 * 3 + 15 * 5 + 11 * (5 + 6 * 5) + 2);
        due("17 decode", y.decode(), 41);
        due("17 apply", y.apply(0), 2);
        due("17 same", y.same(1, 2), true);
    }

    private static void dueVarint(int v, int... bytes) {
        GraphDeltas x = new GraphDeltas();
        x.snapshot();
        x.put(0, 0, v);
        x.snapshot();
        x.diff(0, 1);
        due("17 encode " + v, x.encode(), 7 + bytes.length);
        for (int i = 0; i < bytes.length; i++) {
            due("17 varint of " + v, x.byteAt(5 + i), bytes[i]);
        }
        due("17 decode " + v, x.decode(), 1);
        due("17 the int", x.operation(0, 4), v);
    }

    private static void promise17Varints() {
        dueVarint(0, 0);
        dueVarint(-1, 1);
        dueVarint(1, 2);
        dueVarint(63, 126);
        dueVarint(-64, 127);
        dueVarint(64, 128, 1);
        dueVarint(8191, 254, 127);
        dueVarint(-8192, 255, 127);
        dueVarint(8192, 128, 128, 1);
        dueVarint(1048575, 254, 255, 127);
        dueVarint(1048576, 128, 128, 128, 1);
        dueVarint(-134217728, 255, 255, 255, 127);
        dueVarint(134217728, 128, 128, 128, 128, 1);
        dueVarint(MAX, 254, 255, 255, 255, 15);
        dueVarint(MIN, 255, 255, 255, 255, 15);
    }

    private static void promise18Feed() {
        GraphDeltas x = new GraphDeltas();
        for (int b : new int[] {-1, 256, MIN, MAX}) {
            due("18 feed(" + b + ")", x.feed(b), false);
        }
        due("18 unchanged", x.byteAt(0), GraphDeltas.BAD);
        due("18 feed", x.feed(0), true);
        due("18 feed", x.feed(255), true);
        due("18 byte", x.byteAt(0), 0);
        due("18 byte", x.byteAt(1), 255);
        due("18 behind", x.byteAt(2), GraphDeltas.BAD);
        x.encode();
        due("18 behind an encoded one", x.feed(9), true);
        due("18 byte", x.byteAt(3), 9);
        // More calls than the document promises anything for: the limit of the row cannot be met with less.
        x.cut(0);
        for (int i = 0; i < 1200; i++) {
            due("18 feed", x.feed(i % 256), true);
        }
        due("18 has 1200", x.feed(0), false);
        due("18 byte", x.byteAt(1199), 1199 % 256);
        due("18 behind", x.byteAt(1200), GraphDeltas.BAD);
    }

    private static void promise19Cut() {
        GraphDeltas x = new GraphDeltas();
        feedAll(x, 5, 6, 7);
        for (int n : new int[] {-1, 4, 1200, MIN, MAX}) {
            due("19 cut(" + n + ")", x.cut(n), false);
        }
        due("19 cut(3)", x.cut(3), true);
        due("19 byte", x.byteAt(2), 7);
        due("19 cut(1)", x.cut(1), true);
        due("19 kept", x.byteAt(0), 5);
        due("19 gone", x.byteAt(1), GraphDeltas.BAD);
        due("19 cut(2)", x.cut(2), false);
        x.feed(8);
        due("19 byte", x.byteAt(1), 8);
        due("19 cut(0)", x.cut(0), true);
        due("19 gone", x.byteAt(0), GraphDeltas.BAD);
        due("19 cut(1)", x.cut(1), false);
    }

    private static void promise20Decode() {
        GraphDeltas x = new GraphDeltas();
        due("20 decode", decodeOf(x, 1, 1, 1, 1, 15, 0, 2, 0, 0, 0, 2, 0, 1, 1, 3, 2, 0, 2, 2, 15,
            3, 1, 0, 6, 0, 2, 15, 2, 1, 254, 1), 7);
        dueOperation("20", x, 0, 1, 1, 1);
        dueOperation("20", x, 1, 1, 15, 0);
        dueOperation("20", x, 2, 2, 0, 0, 0, 0);
        dueOperation("20", x, 3, 2, 0, 1, 1, -2);
        dueOperation("20", x, 4, 2, 0, 2, 2, 15);
        dueOperation("20", x, 5, 3, 1, 0, 6, 0);
        dueOperation("20", x, 6, 2, 15, 2, 1, 127);
        due("20 the draft stays", x.byteAt(0), 68);
        due("20 decode again", x.decode(), 7);
        // Not created here: any object may be SET or SPLICEd, the root too, at all seven places.
        due("20 decode", decodeOf(x, 3, 0, 0, 0, 1, 1, 3, 0, 1, 0, 1, 1, 3, 0, 2, 0, 1, 1, 3, 0, 3, 0, 1, 1,
            3, 0, 4, 0, 1, 1, 3, 0, 5, 0, 1, 1, 3, 0, 6, 0, 6, 1, 1, 1, 1, 1, 1, 2, 1, 0, 0), 8);
        dueOperation("20", x, 6, 3, 0, 6, 0, 6, -1, -1, -1, -1, -1, -1);
        due("20 SPLICE with a gap", decodeOf(x, 3, 4, 0, 2, 0, 3, 4, 3, 3, 0), 2);
        due("20 empty", decodeOf(x), 0);
        due("20 no operation", x.operation(0, 0), GraphDeltas.NONE);
        // The delta that is read is apart from the ones read before and after.
        decodeOf(x, 1, 1, 0);
        decodeOf(x, 1, 2, 0);
        decodeOf(x, 9);
        dueOperation("20 stays", x, 0, 1, 2, 0);
        // As many operations as 480 bytes have room for.
        int[] many = new int[480];
        for (int k = 0; k < 80; k++) {
            int[] splice = {3, k / 7, k % 7, 0, 1, 5};
            System.arraycopy(splice, 0, many, 6 * k, 6);
        }
        GraphDeltas y = new GraphDeltas();
        due("20 many", decodeOf(y, many), 80);
        dueOperation("20 many", y, 79, 3, 11, 2, 0, 1, -3);
        due("20 many", y.encode(), 483);
        // The longest delta there is; it takes more calls than the document promises anything for.
        int[] all = new int[45 + 16 * 7 * 6];
        for (int o = 1; o < 16; o++) {
            System.arraycopy(new int[] {1, o, 1}, 0, all, 3 * (o - 1), 3);
        }
        for (int k = 0; k < 16 * 7; k++) {
            System.arraycopy(new int[] {3, k / 7, k % 7, 0, 1, 5}, 0, all, 45 + 6 * k, 6);
        }
        GraphDeltas z = new GraphDeltas();
        due("20 all", decodeOf(z, all), 127);
        dueOperation("20 all", z, 126, 3, 15, 6, 0, 1, -3);
        due("20 all", z.encode(), all.length + 3);
        due("20 all", z.decode(), 127);
    }

    private static void dueMalformed(GraphDeltas x, int... middle) {
        due("20 malformed " + java.util.Arrays.toString(middle), decodeOf(x, middle), GraphDeltas.MALFORMED);
    }

    private static void promise20Malformed() {
        int[][] wrong = {
            {4, 1, 0}, {68}, {255, 0, 0}, {1}, {1, 1}, {2, 0}, {2, 0, 0}, {3, 1}, {3, 1, 0}, {3, 1, 0, 1},
            {1, 0, 0}, {1, 16, 0}, {1, 255, 0}, {1, 1, 2}, {1, 1, 255},
            {1, 2, 0, 1, 1, 0}, {1, 1, 0, 1, 1, 0}, {2, 0, 0, 0, 1, 1, 0}, {3, 1, 0, 1, 0, 1, 2, 0},
            {2, 16, 0, 0}, {2, 0, 3, 0}, {2, 0, 255, 0}, {2, 0, 0, 3}, {2, 0, 0, 255}, {2, 0, 0, 2, 16},
            {2, 0, 0, 2}, {2, 0, 0, 1},
            {2, 1, 0, 0, 2, 0, 0, 0}, {2, 0, 1, 0, 2, 0, 1, 0}, {2, 0, 1, 0, 2, 0, 0, 0},
            {3, 16, 0, 1, 0}, {3, 1, 7, 0, 1, 2}, {3, 1, 6, 1, 0}, {3, 1, 0, 7, 0}, {3, 1, 4, 3, 1, 2}, {3, 1, 1, 0, 0},
            {3, 1, 255, 0, 1, 2}, {3, 1, 0, 255, 1, 2},
            {3, 1, 0, 0, 7, 2, 2, 2, 2, 2, 2, 2}, {3, 1, 0, 0, 2, 2}, {3, 1, 0, 0, 1, 2, 2},
            {3, 1, 0, 1, 0, 3, 1, 1, 1, 0}, {3, 1, 2, 0, 1, 2, 3, 1, 2, 0, 1, 2}, {3, 1, 3, 1, 0, 3, 1, 0, 1, 0},
            {3, 2, 0, 1, 0, 3, 1, 0, 1, 0}, {3, 1, 0, 1, 0, 2, 0, 0, 0},
            {2, 1, 0, 0, 3, 1, 1, 1, 0}, {3, 1, 0, 1, 0, 2, 1, 2, 0},
            {1, 1, 1, 2, 1, 0, 0}, {1, 1, 0, 3, 1, 0, 0, 1, 2}, {1, 1, 1, 1, 2, 0, 2, 0, 0, 0, 2, 1, 0, 0},
            {0, 1, 1, 0},
        };
        GraphDeltas x = new GraphDeltas();
        decodeOf(x, 2, 0, 1, 1, 8);
        for (int k = 0; k < wrong.length; k++) {
            GraphDeltas y = k % 2 == 0 ? x : new GraphDeltas();
            dueMalformed(y, wrong[k]);
        }
        dueOperation("20 the delta stays", x, 0, 2, 0, 1, 1, 4);
        int[][] drafts = {{}, {68}, {68, 0}, {68, 0, 67}, {68, 0, 69}, {68, 0, 68, 0}, {67, 0, 67}, {0, 0, 0},
            {0, 0}, {0}, {68, 68}, {68, 1, 1, 0, 70}, {68, 1, 1, 0, 0}, {68, 1, 1, 0, 0, 71}, {68, 0, 68, 68, 0, 68}};
        for (int[] d : drafts) {
            GraphDeltas y = new GraphDeltas();
            feedAll(y, d);
            due("20 draft " + java.util.Arrays.toString(d), y.decode(), GraphDeltas.MALFORMED);
            due("20 the draft stays", y.cut(d.length), true);
            due("20 the draft stays", y.cut(d.length + 1), false);
        }
    }

    private static void promise20Varints() {
        GraphDeltas x = new GraphDeltas();
        due("20 two bytes", decodeOf(x, 2, 0, 0, 1, 255, 127), 1);
        due("20 int", x.operation(0, 4), -8192);
        due("20 five bytes", decodeOf(x, 2, 0, 0, 1, 255, 255, 255, 255, 15), 1);
        due("20 int", x.operation(0, 4), MIN);
        due("20 five bytes", decodeOf(x, 2, 0, 0, 1, 128, 128, 128, 128, 1), 1);
        due("20 int", x.operation(0, 4), 134217728);
        dueMalformed(x, 2, 0, 0, 1, 255, 255, 255, 255, 16);
        dueMalformed(x, 2, 0, 0, 1, 128, 128, 128, 128, 16);
        dueMalformed(x, 2, 0, 0, 1, 128, 128, 128, 128, 127);
        dueMalformed(x, 2, 0, 0, 1, 128, 128, 128, 128, 128, 1);
        dueMalformed(x, 2, 0, 0, 1, 255, 255, 255, 255, 143, 0);
        dueMalformed(x, 2, 0, 0, 1, 128, 0);
        dueMalformed(x, 2, 0, 0, 1, 129, 0);
        dueMalformed(x, 2, 0, 0, 1, 129, 128, 0);
        dueMalformed(x, 2, 0, 0, 1, 129, 129, 129, 129, 0);
        dueMalformed(x, 2, 0, 0, 1, 255);
        dueMalformed(x, 3, 1, 0, 0, 2, 4, 132, 0);
        due("20 int", x.operation(0, 4), 134217728);
    }

    private static void promise21ByteAt() {
        GraphDeltas x = new GraphDeltas();
        for (int i : new int[] {0, -1, 1, 1199, 1200, MIN, MAX}) {
            due("21 byteAt(" + i + ")", x.byteAt(i), GraphDeltas.BAD);
        }
        feedAll(x, 255, 0);
        due("21 first", x.byteAt(0), 255);
        due("21 last", x.byteAt(1), 0);
        for (int i : new int[] {2, -1, 1199, 1200, MIN, MAX}) {
            due("21 byteAt(" + i + ")", x.byteAt(i), GraphDeltas.BAD);
        }
    }
}
