import java.util.ArrayList;
import java.util.Collections;
import java.util.HashSet;
import java.util.List;
import java.util.Map;
import java.util.Set;
import java.util.TreeMap;
import java.util.TreeSet;

/** The document once more, slow and with the Java library, to compare GraphDeltas with. */
final class Model {
    static final long NOTHING = 1L << 33;
    static final long REFERENCE = 1L << 32;

    /** An object with its contents: slots hold what value(o, k) answers. */
    static final class Thing {
        final boolean list;
        final List<Long> row = new ArrayList<>();

        Thing(boolean list) {
            this.list = list;
            for (int k = 0; k < 3 && !list; k++) {
                row.add(NOTHING);
            }
        }

        Thing copy() {
            Thing copy = new Thing(list);
            copy.row.clear();
            copy.row.addAll(row);
            return copy;
        }
    }

    private final List<Boolean> made = new ArrayList<>();
    private Map<Integer, Thing> live = new TreeMap<>();
    private final List<Map<Integer, Thing>> versions = new ArrayList<>();
    /** Each operation as the row of what operation(k, 0), operation(k, 1), .. answer. */
    private List<List<Long>> delta = new ArrayList<>();
    private List<Integer> conflicts = new ArrayList<>();
    private List<Integer> draft = new ArrayList<>();

    Model() {
        node(false);
    }

    int versionCount() {
        return versions.size();
    }

    int madeCount() {
        return made.size();
    }

    int deltaSize() {
        return delta.size();
    }

    int draftSize() {
        return draft.size();
    }

    int node(boolean list) {
        if (made.size() == 16) {
            return -2;
        }
        live.put(made.size(), new Thing(list));
        made.add(list);
        return made.size() - 1;
    }

    boolean put(int o, int k, int v) {
        return setSlot(o, k, v);
    }

    boolean link(int o, int k, int p) {
        if (p == -1) {
            return setSlot(o, k, NOTHING);
        }
        return live.containsKey(p) && setSlot(o, k, REFERENCE + p);
    }

    private boolean setSlot(int o, int k, long content) {
        Thing thing = live.get(o);
        if (thing == null || thing.list || k < 0 || k > 2) {
            return false;
        }
        thing.row.set(k, content);
        return true;
    }

    boolean insert(int o, int at, int v) {
        Thing thing = live.get(o);
        if (thing == null || !thing.list || thing.row.size() == 6 || at < 0 || at > thing.row.size()) {
            return false;
        }
        thing.row.add(at, (long) v);
        return true;
    }

    boolean remove(int o, int at) {
        Thing thing = live.get(o);
        if (thing == null || !thing.list || at < 0 || at >= thing.row.size()) {
            return false;
        }
        thing.row.remove(at);
        return true;
    }

    int kind(int o) {
        Thing thing = live.get(o);
        return thing == null ? -1 : thing.list ? 1 + thing.row.size() : 0;
    }

    long value(int o, int k) {
        Thing thing = live.get(o);
        return thing == null || k < 0 || k >= thing.row.size() ? 1L << 40 : thing.row.get(k);
    }

    int snapshot() {
        if (versions.size() == 8) {
            return -2;
        }
        versions.add(reachedOf(live));
        return versions.size() - 1;
    }

    private static Map<Integer, Thing> reachedOf(Map<Integer, Thing> graph) {
        Map<Integer, Thing> reached = new TreeMap<>();
        reach(graph, 0, reached);
        return reached;
    }

    private static void reach(Map<Integer, Thing> graph, int o, Map<Integer, Thing> reached) {
        if (reached.containsKey(o)) {
            return;
        }
        reached.put(o, graph.get(o).copy());
        for (long content : graph.get(o).row) {
            if (content >= REFERENCE && content < NOTHING) {
                reach(graph, (int) (content - REFERENCE), reached);
            }
        }
    }

    private static Map<Integer, Thing> copyOf(Map<Integer, Thing> graph) {
        Map<Integer, Thing> copy = new TreeMap<>();
        for (int o : graph.keySet()) {
            copy.put(o, graph.get(o).copy());
        }
        return copy;
    }

    private boolean isVersion(int v) {
        return v >= 0 && v < versions.size();
    }

    boolean restore(int v) {
        if (!isVersion(v)) {
            return false;
        }
        live = copyOf(versions.get(v));
        return true;
    }

    boolean same(int a, int b) {
        return isVersion(a) && isVersion(b) && rows(versions.get(a)).equals(rows(versions.get(b)));
    }

    private static Map<Integer, List<Long>> rows(Map<Integer, Thing> graph) {
        Map<Integer, List<Long>> rows = new TreeMap<>();
        for (int o : graph.keySet()) {
            rows.put(o, graph.get(o).row);
        }
        return rows;
    }

    int diff(int a, int b) {
        if (!isVersion(a) || !isVersion(b)) {
            return -1;
        }
        delta = difference(versions.get(a), versions.get(b));
        return delta.size();
    }

    private static List<Long> row(long... cells) {
        List<Long> row = new ArrayList<>();
        for (long cell : cells) {
            row.add(cell);
        }
        return row;
    }

    private static List<List<Long>> difference(Map<Integer, Thing> a, Map<Integer, Thing> b) {
        List<List<Long>> creates = new ArrayList<>();
        List<List<Long>> others = new ArrayList<>();
        for (int o : b.keySet()) {
            Thing now = b.get(o);
            Thing old = a.containsKey(o) ? a.get(o) : new Thing(now.list);
            if (!a.containsKey(o)) {
                creates.add(row(1, o, now.list ? 1 : 0));
            }
            if (now.list) {
                others.addAll(splices(o, old.row, now.row));
                continue;
            }
            for (int k = 0; k < 3; k++) {
                long content = now.row.get(k);
                if (content != old.row.get(k)) {
                    boolean refers = content >= REFERENCE && content < NOTHING;
                    others.add(content == NOTHING ? row(2, o, k, 0, 0)
                        : refers ? row(2, o, k, 2, content - REFERENCE) : row(2, o, k, 1, content));
                }
            }
        }
        creates.addAll(others);
        return creates;
    }

    private static List<List<Long>> splices(int o, List<Long> old, List<Long> now) {
        List<int[]> kept = best(old, now, 0, 0, new ArrayList<>(), new ArrayList<>());
        kept.add(new int[] {old.size(), now.size()});
        List<List<Long>> splices = new ArrayList<>();
        int i = 0;
        int j = 0;
        for (int[] pair : kept) {
            if (pair[0] > i || pair[1] > j) {
                List<Long> splice = row(3, o, i, pair[0] - i, pair[1] - j);
                splice.addAll(now.subList(j, pair[1]));
                splices.add(splice);
            }
            i = pair[0] + 1;
            j = pair[1] + 1;
        }
        return splices;
    }

    /** Goes through all choices of pairs behind those chosen, and answers the best one seen. */
    private static List<int[]> best(List<Long> old, List<Long> now, int i, int j, List<int[]> chosen, List<int[]> seen) {
        List<int[]> best = better(chosen, seen) ? new ArrayList<>(chosen) : seen;
        for (int p = i; p < old.size(); p++) {
            for (int q = j; q < now.size(); q++) {
                if (old.get(p).equals(now.get(q))) {
                    chosen.add(new int[] {p, q});
                    best = best(old, now, p + 1, q + 1, chosen, best);
                    chosen.remove(chosen.size() - 1);
                }
            }
        }
        return best;
    }

    private static boolean better(List<int[]> one, List<int[]> other) {
        if (one.size() != other.size()) {
            return one.size() > other.size();
        }
        for (int k = 0; k < one.size(); k++) {
            int[] p = one.get(k);
            int[] q = other.get(k);
            if (p[0] != q[0]) {
                return p[0] < q[0];
            }
            if (p[1] != q[1]) {
                return p[1] < q[1];
            }
        }
        return false;
    }

    int merge(int z, int x, int y) {
        if (!isVersion(z) || !isVersion(x) || !isVersion(y)) {
            return -1;
        }
        List<List<Long>> dx = difference(versions.get(z), versions.get(x));
        List<List<Long>> dy = difference(versions.get(z), versions.get(y));
        Set<Integer> numbers = new TreeSet<>();
        for (List<Long> p : dx) {
            for (List<Long> q : dy) {
                if (p.get(0).equals(q.get(0)) && p.get(1).equals(q.get(1)) && !p.equals(q)) {
                    addConflict(p, q, numbers);
                }
            }
        }
        conflicts = new ArrayList<>(numbers);
        if (conflicts.isEmpty()) {
            Set<List<Long>> all = new HashSet<>(dx);
            all.addAll(dy);
            delta = new ArrayList<>(all);
            Collections.sort(delta, (p, q) -> Long.compare(order(p), order(q)));
        }
        return conflicts.size();
    }

    private static void addConflict(List<Long> p, List<Long> q, Set<Integer> numbers) {
        int o = p.get(1).intValue();
        if (p.get(0) == 2 && p.get(2).equals(q.get(2))) {
            numbers.add(8 * o + p.get(2).intValue());
        }
        if (p.get(0) == 3 && !(p.get(2) > q.get(2) + q.get(3)) && !(q.get(2) > p.get(2) + p.get(3))) {
            numbers.add(8 * o + 3);
        }
    }

    private static long order(List<Long> operation) {
        return operation.get(0) == 1 ? operation.get(1) : 1000 + 10 * operation.get(1) + operation.get(2);
    }

    int conflict(int k) {
        return k < 0 || k >= conflicts.size() ? -1 : conflicts.get(k);
    }

    long operation(int k, int which) {
        boolean there = k >= 0 && k < delta.size() && which >= 0 && which < delta.get(k).size();
        return there ? delta.get(k).get(which) : 1L << 40;
    }

    int apply(int v) {
        if (!isVersion(v)) {
            return -1;
        }
        Map<Integer, Thing> result = result(versions.get(v));
        if (result == null) {
            return -3;
        }
        if (versions.size() == 8) {
            return -2;
        }
        versions.add(reachedOf(result));
        return versions.size() - 1;
    }

    /** What applying gives, before the unreached are left out; null when the delta does not fit. */
    private Map<Integer, Thing> result(Map<Integer, Thing> v) {
        Map<Integer, Thing> result = copyOf(v);
        for (List<Long> p : delta) {
            int o = p.get(1).intValue();
            if (p.get(0) == 1) {
                if (v.containsKey(o) || o >= made.size() || made.get(o) != (p.get(2) == 1)) {
                    return null;
                }
                result.put(o, new Thing(made.get(o)));
            }
        }
        // From the last one on, so that the places of those before are not moved.
        for (int k = delta.size() - 1; k >= 0; k--) {
            List<Long> p = delta.get(k);
            if (p.get(0) == 2 && !set(p, result) || p.get(0) == 3 && !splice(p, v, result)) {
                return null;
            }
        }
        for (Thing thing : result.values()) {
            if (thing.row.size() > 6) {
                return null;
            }
        }
        return result;
    }

    private static boolean set(List<Long> p, Map<Integer, Thing> result) {
        Thing thing = result.get(p.get(1).intValue());
        if (thing == null || thing.list || p.get(3) == 2 && !result.containsKey(p.get(4).intValue())) {
            return false;
        }
        long content = p.get(3) == 0 ? NOTHING : p.get(3) == 1 ? p.get(4) : REFERENCE + p.get(4);
        thing.row.set(p.get(2).intValue(), content);
        return true;
    }

    private static boolean splice(List<Long> p, Map<Integer, Thing> v, Map<Integer, Thing> result) {
        int o = p.get(1).intValue();
        Thing thing = result.get(o);
        int before = v.containsKey(o) ? v.get(o).row.size() : 0;
        if (thing == null || !thing.list || p.get(2) + p.get(3) > before) {
            return false;
        }
        int at = p.get(2).intValue();
        thing.row.subList(at, at + p.get(3).intValue()).clear();
        thing.row.addAll(at, p.subList(5, p.size()));
        return true;
    }

    int encode() {
        draft = bytes(delta);
        return draft.size();
    }

    static List<Integer> bytes(List<List<Long>> delta) {
        List<Integer> bytes = new ArrayList<>();
        bytes.add(68);
        for (List<Long> p : delta) {
            for (int w = 0; w < p.size(); w++) {
                boolean isInt = p.get(0) == 2 ? w == 4 && p.get(3) == 1 : w > 4;
                boolean hidden = p.get(0) == 2 && w == 4 && p.get(3) == 0;
                if (isInt) {
                    addVarint(p.get(w), bytes);
                } else if (!hidden) {
                    bytes.add(p.get(w).intValue());
                }
            }
        }
        bytes.add(0);
        bytes.add(sum(bytes) % 256);
        return bytes;
    }

    private static int sum(List<Integer> bytes) {
        int sum = 0;
        for (int b : bytes) {
            sum += b;
        }
        return sum;
    }

    private static void addVarint(long v, List<Integer> bytes) {
        long u = v >= 0 ? 2 * v : -2 * v - 1;
        while (u >= 128) {
            bytes.add((int) (u % 128) + 128);
            u /= 128;
        }
        bytes.add((int) u);
    }

    boolean feed(int b) {
        return b >= 0 && b <= 255 && draft.size() < 1200 && draft.add(b);
    }

    boolean cut(int n) {
        if (n < 0 || n > draft.size()) {
            return false;
        }
        draft = new ArrayList<>(draft.subList(0, n));
        return true;
    }

    /** Reads whatever there is, then asks whether that is a delta and whether its bytes are the draft. */
    int decode() {
        List<List<Long>> read = new ArrayList<>();
        int[] at = {1};
        while (at[0] < draft.size() && draft.get(at[0]) != 0 && read.size() < 1200) {
            read.add(readLoosely(at));
        }
        if (!isDelta(read) || !bytes(read).equals(draft)) {
            return -4;
        }
        delta = read;
        return delta.size();
    }

    private long next(int[] at) {
        return at[0] < draft.size() ? draft.get(at[0]++) : 999;
    }

    private List<Long> readLoosely(int[] at) {
        List<Long> p = row(next(at), next(at), next(at));
        if (p.get(0) == 2) {
            p.add(next(at));
            p.add(p.get(3) == 0 ? 0 : p.get(3) == 1 ? readVarint(at) : next(at));
        }
        if (p.get(0) == 3) {
            p.add(next(at));
            p.add(next(at));
            for (int k = 0; k < p.get(4); k++) {
                p.add(readVarint(at));
            }
        }
        return p;
    }

    private long readVarint(int[] at) {
        long u = 0;
        long weight = 1;
        for (int k = 0; k < 6; k++) {
            long b = next(at);
            u += b % 128 * weight;
            weight *= 128;
            if (b < 128) {
                break;
            }
        }
        return u % 2 == 0 ? u / 2 : -(u + 1) / 2;
    }

    static boolean isDelta(List<List<Long>> delta) {
        Map<Long, Long> created = new TreeMap<>();
        for (int k = 0; k < delta.size(); k++) {
            List<Long> p = delta.get(k);
            if (!isOperation(p)) {
                return false;
            }
            if (p.get(0) == 1) {
                created.put(p.get(1), p.get(2));
            }
            if (k > 0 && !mayFollow(delta.get(k - 1), p)) {
                return false;
            }
        }
        for (List<Long> p : delta) {
            long kind = created.getOrDefault(p.get(1), -1L);
            if (p.get(0) == 2 && kind == 1 || p.get(0) == 3 && kind == 0) {
                return false;
            }
        }
        return true;
    }

    private static boolean isOperation(List<Long> p) {
        long code = p.get(0);
        if (code < 1 || code > 3 || p.get(1) < 0 || p.get(1) > 15) {
            return false;
        }
        if (code == 1) {
            return p.get(1) != 0 && p.get(2) <= 1;
        }
        if (code == 2) {
            boolean isInt = p.get(4) == p.get(4).intValue();
            return p.get(2) <= 2 && p.get(3) <= 2 && isInt && (p.get(3) != 2 || p.get(4) <= 15);
        }
        for (long v : p.subList(5, p.size())) {
            if (v != (int) v) {
                return false;
            }
        }
        return p.get(2) + p.get(3) <= 6 && p.get(4) <= 6 && p.get(3) + p.get(4) > 0;
    }

    private static boolean mayFollow(List<Long> before, List<Long> p) {
        if (p.get(0) == 1) {
            return before.get(0) == 1 && before.get(1) < p.get(1);
        }
        if (before.get(0) == 1 || before.get(1) < p.get(1)) {
            return true;
        }
        if (!before.get(1).equals(p.get(1)) || !before.get(0).equals(p.get(0))) {
            return false;
        }
        return p.get(2) > before.get(2) + (p.get(0) == 3 ? before.get(3) : 0);
    }

    int byteAt(int i) {
        return i < 0 || i >= draft.size() ? -1 : draft.get(i);
    }
}
