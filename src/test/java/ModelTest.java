import java.util.ArrayList;
import java.util.List;
import java.util.Random;

/** Random runs of at most 512 calls, the same ones each time: the answers are due that the model gives. */
public final class ModelTest {
    private static final int RUNS = 6000;
    private static final Checks CHECKS = new Checks("ModelTest");

    private final Random random;
    private final String title;
    private final GraphDeltas real = new GraphDeltas();
    private final Model model = new Model();
    private final int ints;
    private final int most;
    private int calls;

    private ModelTest(int run) {
        random = new Random(run);
        title = "run " + run + ": ";
        ints = 1 + random.nextInt(5);
        // The versions are soon all made, so many runs end early.
        most = 100 + random.nextInt(413);
    }

    public static void main(String[] args) {
        for (int run = 0; run < RUNS && CHECKS.wrong() < 20; run++) {
            new ModelTest(run).go();
        }
        CHECKS.end();
    }

    private void go() {
        int made = random.nextInt(13);
        for (int k = 0; k < made; k++) {
            node();
        }
        edit(random.nextInt(60));
        int branches = random.nextInt(7);
        for (int k = 0; k < branches; k++) {
            branch();
        }
        while (calls < most) {
            step();
        }
    }

    /** A version that is some changes away from another one, mostly from the first. */
    private void branch() {
        due("snapshot", real.snapshot(), model.snapshot());
        int v = random.nextInt(3) > 0 ? 0 : aVersion();
        due("restore", real.restore(v), model.restore(v));
        if (random.nextInt(4) == 0) {
            node();
        }
        edit(1 + random.nextInt(10));
    }

    private void step() {
        switch (random.nextInt(20)) {
            case 0:
                node();
                break;
            case 1: case 2: case 3: case 4: case 5:
                edit(1 + random.nextInt(12));
                break;
            case 6:
                version();
                break;
            case 7:
                branch();
                break;
            case 8: case 9: case 10:
                diff();
                break;
            case 11: case 12: case 13:
                merge();
                break;
            case 14:
                apply(aVersion());
                break;
            case 15: case 16:
                roundTrip();
                break;
            case 17:
                spoil();
                break;
            case 18:
                feedDelta();
                break;
            default:
                look(4);
        }
    }

    private void due(String call, long got, long want) {
        calls++;
        if (calls <= most) {
            CHECKS.due(title + call, got, want);
        }
    }

    private void due(String call, boolean got, boolean want) {
        due(call, got ? 1L : 0L, want ? 1L : 0L);
    }

    // Arguments: mostly ones that are there.

    private int odd() {
        int[] odd = {-1, -2, 16, 17, 8, 6, 7, Integer.MIN_VALUE, Integer.MAX_VALUE};
        return odd[random.nextInt(odd.length)];
    }

    private int below(int n) {
        return n == 0 || random.nextInt(40) == 0 ? odd() : random.nextInt(n);
    }

    private int anObject() {
        return below(model.madeCount());
    }

    private int aVersion() {
        return below(model.versionCount());
    }

    private int anInt() {
        int[] edges = {0, -1, 63, 64, -64, -65, 8191, 8192, -8193, 1048576, -134217729, Integer.MAX_VALUE, Integer.MIN_VALUE};
        return random.nextInt(8) == 0 ? edges[random.nextInt(edges.length)] : random.nextInt(ints);
    }

    // Calls.

    private void node() {
        boolean list = random.nextInt(3) > 0;
        int o = model.node(list);
        due("node", real.node(list), o);
        // What nothing refers to is in no version: so most new objects are linked at once.
        int from = anObject();
        int slot = below(3);
        if (random.nextInt(5) > 0) {
            due("link", real.link(from, slot, o), model.link(from, slot, o));
        }
    }

    private void edit(int times) {
        for (int k = 0; k < times; k++) {
            int o = anObject();
            boolean list = model.kind(o) > 0;
            if (random.nextInt(10) == 0 ? !list : list) {
                editList(o);
            } else {
                editRecord(o);
            }
        }
    }

    private void editList(int o) {
        int n = Math.max(0, model.kind(o) - 1);
        int at = below(n + 1);
        int v = anInt();
        if (random.nextInt(7) < n) {
            due("remove", real.remove(o, at), model.remove(o, at));
        } else {
            due("insert", real.insert(o, at, v), model.insert(o, at, v));
        }
    }

    private void editRecord(int o) {
        int slot = below(3);
        int v = anInt();
        int p = random.nextInt(4) == 0 ? -1 : anObject();
        if (random.nextInt(4) == 0) {
            due("put", real.put(o, slot, v), model.put(o, slot, v));
        } else {
            due("link", real.link(o, slot, p), model.link(o, slot, p));
        }
    }

    private void version() {
        if (random.nextInt(2) == 0) {
            due("snapshot", real.snapshot(), model.snapshot());
        } else {
            int v = aVersion();
            due("restore", real.restore(v), model.restore(v));
        }
    }

    private void diff() {
        int a = aVersion();
        int b = aVersion();
        due("same", real.same(a, b), model.same(a, b));
        due("diff", real.diff(a, b), model.diff(a, b));
        lookAtDelta();
        if (model.deltaSize() > 0 && random.nextInt(4) == 0) {
            apply(a);
        }
    }

    private void merge() {
        int z = aVersion();
        int x = aVersion();
        int y = aVersion();
        int due = model.merge(z, x, y);
        due("merge", real.merge(z, x, y), due);
        for (int k = -1; k <= due; k++) {
            due("conflict", real.conflict(k), model.conflict(k));
        }
        lookAtDelta();
        if (model.deltaSize() > 0 && random.nextInt(3) == 0) {
            apply(z);
        }
    }

    private void apply(int v) {
        int due = model.apply(v);
        due("apply", real.apply(v), due);
        if (due >= 0 && random.nextInt(2) == 0) {
            due("restore", real.restore(due), model.restore(due));
            look(6);
        }
    }

    private void roundTrip() {
        int due = model.encode();
        due("encode", real.encode(), due);
        for (int i = -1; i <= due; i += 1 + random.nextInt(4)) {
            due("byteAt", real.byteAt(i), model.byteAt(i));
        }
        due("decode", real.decode(), model.decode());
    }

    /** Changes a byte of the end of the draft, with the right sum or not. */
    private void spoil() {
        due("encode", real.encode(), model.encode());
        int n = model.draftSize();
        int from = Math.max(0, n - 2 - random.nextInt(14));
        List<Integer> tail = new ArrayList<>();
        for (int i = from; i < n - 1; i++) {
            tail.add(model.byteAt(i));
        }
        int place = random.nextInt(tail.size() + 1);
        if (place < tail.size() && random.nextBoolean()) {
            tail.set(place, aByte());
        } else if (place < tail.size() && random.nextBoolean()) {
            tail.remove(place);
        } else {
            tail.add(place, aByte());
        }
        due("cut", real.cut(from), model.cut(from));
        feedAll(tail);
        feedSum();
        due("decode", real.decode(), model.decode());
        lookAtDelta();
    }

    private int aByte() {
        return random.nextInt(4) == 0 ? random.nextInt(256) : random.nextInt(8);
    }

    private void feedAll(List<Integer> bytes) {
        for (int b : bytes) {
            due("feed", real.feed(b), model.feed(b));
        }
    }

    private void feedSum() {
        int sum = 0;
        for (int i = 0; i < model.draftSize(); i++) {
            sum += model.byteAt(i);
        }
        int b = random.nextInt(30) == 0 ? below(256) : sum % 256;
        due("feed", real.feed(b), model.feed(b));
    }

    /** A delta made up, which may be none, or one that does not fit. */
    private void feedDelta() {
        List<List<Long>> delta = new ArrayList<>();
        for (int o = 0; o < 16; o++) {
            if (random.nextInt(o >= model.madeCount() ? 60 : 8) == 0) {
                delta.add(operation(1, o, random.nextInt(o + 1) == 0 ? 2 : random.nextInt(2)));
            }
        }
        for (int o = 0; o < 16; o++) {
            if (random.nextInt(o >= model.madeCount() ? 60 : 3) == 0) {
                boolean list = model.kind(o) != 0;
                int n = 1 + random.nextInt(3);
                for (int k = 0, at = random.nextInt(2); k < n; k++) {
                    List<Long> p = list ? aSplice(o, at) : aSet(o, at);
                    delta.add(p);
                    at += random.nextInt(12) == 0 ? 0 : 1 + (list ? p.get(3).intValue() : 0);
                }
            }
        }
        List<Integer> bytes = Model.bytes(delta);
        due("cut", real.cut(0), model.cut(0));
        feedAll(bytes.subList(0, bytes.size() - 1));
        feedSum();
        due("decode", real.decode(), model.decode());
        lookAtDelta();
        apply(aVersion());
    }

    private List<Long> aSet(int o, int slot) {
        int tag = random.nextInt(3);
        int content = tag == 0 ? 0 : tag == 1 ? anInt() : random.nextInt(Math.min(16, model.madeCount() + 1));
        return operation(2, o, slot, tag, content);
    }

    private List<Long> aSplice(int o, int at) {
        List<Long> p = operation(3, o, at, random.nextInt(3), random.nextInt(4));
        if (random.nextInt(10) > 0 && p.get(3) + p.get(4) == 0) {
            p.set(3, 1L);
        }
        for (int k = 0; k < p.get(4); k++) {
            p.add((long) anInt());
        }
        return p;
    }

    private static List<Long> operation(long... cells) {
        List<Long> operation = new ArrayList<>();
        for (long cell : cells) {
            operation.add(cell);
        }
        return operation;
    }

    private void look(int times) {
        for (int k = 0; k < times; k++) {
            int o = anObject();
            due("kind", real.kind(o), model.kind(o));
            int place = below(6);
            due("value", real.value(o, place), model.value(o, place));
        }
    }

    private void lookAtDelta() {
        int times = random.nextInt(12);
        for (int t = 0; t < times; t++) {
            int k = below(model.deltaSize());
            int w = below(8);
            due("operation", real.operation(k, w), model.operation(k, w));
        }
    }
}
