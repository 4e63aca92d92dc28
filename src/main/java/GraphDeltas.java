import java.util.Arrays;

/**
 * Keeps versions of a graph of objects, finds the least difference of two of them, writes
 * differences as bytes and reads them, applies them to versions, and merges two versions that
 * come from a third one.
 */
public final class GraphDeltas {
    public static final int BAD = -1;
    public static final int FULL = -2;
    public static final int MISFIT = -3;
    public static final int MALFORMED = -4;
    public static final long NONE = 1099511627776L;

    private static final int OBJECTS = 16;
    private static final int SLOTS = 3;
    private static final int ITEMS = 6;
    private static final int VERSIONS = 8;

    private static final int ABSENT = -1;
    private static final int RECORD = 0;
    private static final int LIST = 1;

    private static final int NOTHING = 0;
    private static final int INT = 1;
    private static final int REFERENCE = 2;

    private static final int CREATE = 1;
    private static final int SET = 2;
    private static final int SPLICE = 3;

    private static final long REFERENCE_VALUE = 4294967296L;
    private static final long NOTHING_VALUE = 8589934592L;

    /** The kind of each object that has been made, whichever graphs have it; else ABSENT. */
    private final int[] kinds = new int[OBJECTS];
    private int made;
    private final Graph live = new Graph();
    private final Graph[] versions = new Graph[VERSIONS];
    private int versionCount;
    private Delta delta = new Delta();
    /** Decoding may fail halfway, so it fills this one, which then takes the place of delta. */
    private Delta spare = new Delta();
    private final Difference difference = new Difference();
    private final Merger merger = new Merger();
    private final Draft draft = new Draft();

    public GraphDeltas() {
        Arrays.fill(kinds, ABSENT);
        for (int v = 0; v < VERSIONS; v++) {
            versions[v] = new Graph();
        }
        kinds[0] = RECORD;
        made = 1;
        live.admit(0, RECORD);
    }

    public int node(boolean list) {
        if (made >= OBJECTS) {
            return FULL;
        }
        int o = made;
        kinds[o] = list ? LIST : RECORD;
        live.admit(o, kinds[o]);
        made++;
        return o;
    }

    public boolean put(int o, int k, int v) {
        if (!live.hasSlot(o, k)) {
            return false;
        }
        live.fill(o, k, INT, v);
        return true;
    }

    public boolean link(int o, int k, int p) {
        if (!live.hasSlot(o, k)) {
            return false;
        }
        if (p == -1) {
            live.fill(o, k, NOTHING, 0);
            return true;
        }
        if (!live.has(p)) {
            return false;
        }
        live.fill(o, k, REFERENCE, p);
        return true;
    }

    public boolean insert(int o, int at, int v) {
        if (!live.isList(o) || live.length(o) >= ITEMS || at < 0 || at > live.length(o)) {
            return false;
        }
        live.openItem(o, at, v);
        return true;
    }

    public boolean remove(int o, int at) {
        if (!live.hasItem(o, at)) {
            return false;
        }
        live.closeItem(o, at);
        return true;
    }

    public int kind(int o) {
        if (!live.has(o)) {
            return BAD;
        }
        return live.isList(o) ? 1 + live.length(o) : 0;
    }

    public long value(int o, int k) {
        if (live.hasItem(o, k)) {
            return live.item(o, k);
        }
        if (!live.hasSlot(o, k)) {
            return NONE;
        }
        switch (live.tag(o, k)) {
            case INT:
                return live.content(o, k);
            case REFERENCE:
                return REFERENCE_VALUE + live.content(o, k);
            default:
                return NOTHING_VALUE;
        }
    }

    public int snapshot() {
        if (versionCount >= VERSIONS) {
            return FULL;
        }
        Graph target = versions[versionCount];
        target.become(live);
        target.dropUnreached();
        versionCount++;
        return versionCount - 1;
    }

    public boolean restore(int v) {
        if (!isVersion(v)) {
            return false;
        }
        live.become(versions[v]);
        return true;
    }

    public boolean same(int a, int b) {
        return isVersion(a) && isVersion(b) && versions[a].matches(versions[b]);
    }

    public int diff(int a, int b) {
        if (!isVersion(a) || !isVersion(b)) {
            return BAD;
        }
        difference.find(versions[a], versions[b], delta);
        return delta.size();
    }

    public int merge(int z, int x, int y) {
        if (!isVersion(z) || !isVersion(x) || !isVersion(y)) {
            return BAD;
        }
        difference.find(versions[z], versions[x], merger.dx);
        difference.find(versions[z], versions[y], merger.dy);
        merger.findConflicts();
        if (merger.conflictCount() == 0) {
            merger.join(delta);
        }
        return merger.conflictCount();
    }

    public int conflict(int k) {
        return merger.conflictAt(k);
    }

    public long operation(int k, int which) {
        return delta.hasCell(k, which) ? delta.cell(k, which) : NONE;
    }

    public int apply(int v) {
        if (!isVersion(v)) {
            return BAD;
        }
        if (!Patch.fits(delta, versions[v], kinds)) {
            return MISFIT;
        }
        if (versionCount >= VERSIONS) {
            return FULL;
        }
        Patch.build(delta, versions[v], versions[versionCount]);
        versionCount++;
        return versionCount - 1;
    }

    public int encode() {
        draft.write(delta);
        return draft.size();
    }

    public boolean feed(int b) {
        if (b < 0 || b > 255 || draft.isFull()) {
            return false;
        }
        draft.add(b);
        return true;
    }

    public boolean cut(int n) {
        if (n < 0 || n > draft.size()) {
            return false;
        }
        draft.shorten(n);
        return true;
    }

    public int decode() {
        if (!new Reader(draft).read(spare)) {
            return MALFORMED;
        }
        Delta read = spare;
        spare = delta;
        delta = read;
        return delta.size();
    }

    public int byteAt(int i) {
        return draft.at(i);
    }

    private boolean isVersion(int v) {
        return v >= 0 && v < versionCount;
    }

    /** Some of the objects with their contents. What it has not is kept empty, so rows compare plainly. */
    private static final class Graph {
        private final int[] forms = new int[OBJECTS];
        private final int[] lengths = new int[OBJECTS];
        private final int[] tags = new int[OBJECTS * SLOTS];
        /** The content of slot k, or item k, of object o stands at o * ITEMS + k; unused ones are 0. */
        private final int[] cells = new int[OBJECTS * ITEMS];

        Graph() {
            Arrays.fill(forms, ABSENT);
        }

        boolean has(int o) {
            return form(o) != ABSENT;
        }

        /** RECORD, LIST or ABSENT. */
        int form(int o) {
            return o >= 0 && o < OBJECTS ? forms[o] : ABSENT;
        }

        boolean isList(int o) {
            return form(o) == LIST;
        }

        boolean hasSlot(int o, int k) {
            return form(o) == RECORD && k >= 0 && k < SLOTS;
        }

        boolean hasItem(int o, int k) {
            return form(o) == LIST && k >= 0 && k < lengths[o];
        }

        /** The number of items; 0 for what is no LIST of this graph. */
        int length(int o) {
            return form(o) == LIST ? lengths[o] : 0;
        }

        int item(int o, int k) {
            return hasItem(o, k) ? cells[o * ITEMS + k] : 0;
        }

        int tag(int o, int k) {
            return hasSlot(o, k) ? tags[o * SLOTS + k] : NOTHING;
        }

        /** The int in a slot or the object that it refers to; 0 for NOTHING. */
        int content(int o, int k) {
            return hasSlot(o, k) ? cells[o * ITEMS + k] : 0;
        }

        void admit(int o, int form) {
            empty(o);
            forms[o] = form;
        }

        void fill(int o, int k, int tag, int content) {
            tags[o * SLOTS + k] = tag;
            cells[o * ITEMS + k] = content;
        }

        void openItem(int o, int at, int v) {
            int base = o * ITEMS;
            for (int k = lengths[o]; k > at; k--) {
                cells[base + k] = cells[base + k - 1];
            }
            cells[base + at] = v;
            lengths[o]++;
        }

        void closeItem(int o, int at) {
            int base = o * ITEMS;
            lengths[o]--;
            for (int k = at; k < lengths[o]; k++) {
                cells[base + k] = cells[base + k + 1];
            }
            cells[base + lengths[o]] = 0;
        }

        void append(int o, int v) {
            if (lengths[o] < ITEMS) {
                cells[o * ITEMS + lengths[o]] = v;
                lengths[o]++;
            }
        }

        /** Takes the contents of o away, and o itself. */
        void empty(int o) {
            forms[o] = ABSENT;
            lengths[o] = 0;
            Arrays.fill(tags, o * SLOTS, (o + 1) * SLOTS, NOTHING);
            Arrays.fill(cells, o * ITEMS, (o + 1) * ITEMS, 0);
        }

        void become(Graph other) {
            System.arraycopy(other.forms, 0, forms, 0, forms.length);
            System.arraycopy(other.lengths, 0, lengths, 0, lengths.length);
            System.arraycopy(other.tags, 0, tags, 0, tags.length);
            System.arraycopy(other.cells, 0, cells, 0, cells.length);
        }

        boolean matches(Graph other) {
            return rowsMatch(forms, other.forms) && rowsMatch(lengths, other.lengths)
                && rowsMatch(tags, other.tags) && rowsMatch(cells, other.cells);
        }

        private static boolean rowsMatch(int[] row, int[] other) {
            for (int k = 0; k < row.length && k < other.length; k++) {
                if (row[k] != other[k]) {
                    return false;
                }
            }
            return row.length == other.length;
        }

        void dropUnreached() {
            int reached = reached();
            for (int o = 0; o < OBJECTS; o++) {
                if ((reached >> o & 1) == 0) {
                    empty(o);
                }
            }
        }

        /** Bit o is set when o is reached; a path needs at most as many steps as there are objects. */
        private int reached() {
            int reached = 1;
            for (int step = 1; step < OBJECTS; step++) {
                reached |= referredFrom(reached);
            }
            return reached;
        }

        private int referredFrom(int objects) {
            int referred = 0;
            for (int o = 0; o < OBJECTS; o++) {
                for (int k = 0; k < SLOTS; k++) {
                    if ((objects >> o & 1) == 1 && tags[o * SLOTS + k] == REFERENCE) {
                        referred |= 1 << cells[o * ITEMS + k];
                    }
                }
            }
            return referred;
        }
    }

    /** A row of operations. Cell w of an operation is what the face tells of it for which = w. */
    private static final class Delta {
        /** A CREATE for each object but the root, and for each object SPLICEs at 0 .. ITEMS. */
        static final int ROOM = OBJECTS - 1 + OBJECTS * (ITEMS + 1);
        private static final int HEAD = 5;
        private static final int WIDTH = HEAD + ITEMS;

        private final int[] cells = new int[ROOM * WIDTH];
        private int count;

        int size() {
            return count;
        }

        void clear() {
            count = 0;
        }

        boolean hasCell(int k, int w) {
            return k >= 0 && k < count && w >= 0 && w < width(k);
        }

        /** For operations and cells that there are, as all answers about operation k below. */
        int cell(int k, int w) {
            return cells[k * WIDTH + w];
        }

        private int width(int k) {
            switch (code(k)) {
                case CREATE:
                    return 3;
                case SET:
                    return HEAD;
                default:
                    return HEAD + inserts(k);
            }
        }

        int code(int k) {
            return cells[k * WIDTH];
        }

        int object(int k) {
            return cells[k * WIDTH + 1];
        }

        /** The kind of a CREATE, the slot of a SET, the at of a SPLICE. */
        int place(int k) {
            return cells[k * WIDTH + 2];
        }

        int tag(int k) {
            return cells[k * WIDTH + 3];
        }

        int content(int k) {
            return cells[k * WIDTH + 4];
        }

        int deletes(int k) {
            return cells[k * WIDTH + 3];
        }

        int inserts(int k) {
            return cells[k * WIDTH + 4];
        }

        int inserted(int k, int i) {
            return cells[k * WIDTH + HEAD + i];
        }

        /** The place behind what a SPLICE deletes. */
        int end(int k) {
            return place(k) + deletes(k);
        }

        boolean isOn(int k, int code, int object) {
            return code(k) == code && object(k) == object;
        }

        void addCreate(int object, int kind) {
            add(CREATE, object, kind, 0, 0);
        }

        void addSet(int object, int slot, int tag, int content) {
            add(SET, object, slot, tag, content);
        }

        /** A SPLICE that inserts nothing yet: addInserted gives it its ints. */
        void addSplice(int object, int at, int deletes) {
            add(SPLICE, object, at, deletes, 0);
        }

        private void add(int code, int object, int place, int third, int fourth) {
            if (count >= ROOM) {
                return;
            }
            int base = count * WIDTH;
            cells[base] = code;
            cells[base + 1] = object;
            cells[base + 2] = place;
            cells[base + 3] = third;
            cells[base + 4] = fourth;
            count++;
        }

        void addInserted(int v) {
            int last = count - 1;
            if (last >= 0 && inserts(last) < ITEMS) {
                cells[last * WIDTH + HEAD + inserts(last)] = v;
                cells[last * WIDTH + 4]++;
            }
        }

        void addFrom(Delta other, int k) {
            if (count < ROOM && k >= 0 && k < other.count) {
                System.arraycopy(other.cells, k * WIDTH, cells, count * WIDTH, WIDTH);
                count++;
            }
        }

        /** The kind of an object that is created here; else ABSENT. */
        int createdKind(int object) {
            for (int k = 0; k < count && code(k) == CREATE; k++) {
                if (object(k) == object) {
                    return place(k);
                }
            }
            return ABSENT;
        }

        boolean matches(int k, Delta other, int m) {
            if (width(k) != other.width(m)) {
                return false;
            }
            for (int w = 0; w < width(k); w++) {
                if (cell(k, w) != other.cell(m, w)) {
                    return false;
                }
            }
            return true;
        }

        /** A number that rises from each operation of a delta to the next one. */
        int rank(int k) {
            return code(k) == CREATE ? object(k) : OBJECTS + object(k) * (ITEMS + 1) + place(k);
        }

        /** Whether the last operation may stand behind those before it. */
        boolean endsInOrder() {
            int before = count - 2;
            int last = count - 1;
            if (before < 0) {
                return true;
            }
            if (code(last) == CREATE) {
                return code(before) == CREATE && object(before) < object(last);
            }
            return suitsItsCreate(last) && follows(last, before);
        }

        private boolean suitsItsCreate(int k) {
            int wrongKind = code(k) == SET ? LIST : RECORD;
            return createdKind(object(k)) != wrongKind;
        }

        private boolean follows(int k, int before) {
            if (code(before) == CREATE || object(before) < object(k)) {
                return true;
            }
            int least = code(before) == SPLICE ? end(before) : place(before);
            return isOn(before, code(k), object(k)) && place(k) > least;
        }
    }

    /** Finds the difference of two graphs. */
    private static final class Difference {
        private static final int PLACES = ITEMS + 1;
        private final int[] oldRow = new int[ITEMS];
        private final int[] newRow = new int[ITEMS];
        private int oldLength;
        private int newLength;
        /** At i * PLACES + j: how many pairs can be kept from old place i and new place j on. */
        private final int[] most = new int[PLACES * PLACES];

        void find(Graph a, Graph b, Delta into) {
            into.clear();
            for (int o = 0; o < OBJECTS; o++) {
                if (b.has(o) && !a.has(o)) {
                    into.addCreate(o, b.form(o));
                }
            }
            for (int o = 0; o < OBJECTS; o++) {
                if (b.isList(o)) {
                    takeRows(a, b, o);
                    countPairs();
                    addSplices(o, into);
                } else if (b.has(o)) {
                    addSets(a, b, o, into);
                }
            }
        }

        /** A graph answers NOTHING for the slots of what it has not, so a new RECORD is no case apart. */
        private static void addSets(Graph a, Graph b, int o, Delta into) {
            for (int k = 0; k < SLOTS; k++) {
                if (a.tag(o, k) != b.tag(o, k) || a.content(o, k) != b.content(o, k)) {
                    into.addSet(o, k, b.tag(o, k), b.content(o, k));
                }
            }
        }

        private void takeRows(Graph a, Graph b, int o) {
            oldLength = a.length(o);
            newLength = b.length(o);
            for (int k = 0; k < ITEMS; k++) {
                oldRow[k] = a.item(o, k);
                newRow[k] = b.item(o, k);
            }
        }

        private void countPairs() {
            Arrays.fill(most, 0);
            for (int i = oldLength - 1; i >= 0; i--) {
                for (int j = newLength - 1; j >= 0; j--) {
                    int skipped = Math.max(mostFrom(i + 1, j), mostFrom(i, j + 1));
                    int paired = oldRow[i] == newRow[j] ? 1 + mostFrom(i + 1, j + 1) : 0;
                    most[i * PLACES + j] = Math.max(skipped, paired);
                }
            }
        }

        private int mostFrom(int i, int j) {
            return most[i * PLACES + j];
        }

        /** Keeps each old item that can be kept without loss: so the kept pairs are the least choice. */
        private void addSplices(int o, Delta into) {
            int i = 0;
            int j = 0;
            for (int place = 0; place < oldLength; place++) {
                int mate = mate(place, j, mostFrom(i, j));
                if (mate != ABSENT) {
                    addGap(o, i, place, j, mate, into);
                    i = place + 1;
                    j = mate + 1;
                }
            }
            addGap(o, i, oldLength, j, newLength, into);
        }

        /** The first new place from j on to keep with an old place so that due pairs are kept; else ABSENT. */
        private int mate(int place, int j, int due) {
            for (int k = j; k < newLength; k++) {
                if (oldRow[place] == newRow[k] && 1 + mostFrom(place + 1, k + 1) == due) {
                    return k;
                }
            }
            return ABSENT;
        }

        private void addGap(int o, int i, int oldEnd, int j, int newEnd, Delta into) {
            if (i == oldEnd && j == newEnd) {
                return;
            }
            into.addSplice(o, i, oldEnd - i);
            for (int k = j; k < newEnd; k++) {
                into.addInserted(newRow[k]);
            }
        }
    }

    /** Holds two differences from one version, finds their conflicts and joins them. */
    private static final class Merger {
        final Delta dx = new Delta();
        final Delta dy = new Delta();
        private final int[] conflicts = new int[OBJECTS * SLOTS];
        private int count;

        int conflictCount() {
            return count;
        }

        int conflictAt(int k) {
            return k >= 0 && k < count ? conflicts[k] : BAD;
        }

        /** They come in the order of dx, which is that of the objects and their slots. */
        void findConflicts() {
            count = 0;
            for (int k = 0; k < dx.size(); k++) {
                for (int m = 0; m < dy.size(); m++) {
                    if (clash(k, m)) {
                        note(8 * dx.object(k) + (dx.code(k) == SET ? dx.place(k) : 3));
                    }
                }
            }
        }

        private boolean clash(int k, int m) {
            if (dx.code(k) == CREATE || !dy.isOn(m, dx.code(k), dx.object(k)) || dx.matches(k, dy, m)) {
                return false;
            }
            if (dx.code(k) == SET) {
                return dx.place(k) == dy.place(m);
            }
            return dx.place(k) <= dy.end(m) && dy.place(m) <= dx.end(k);
        }

        /** A LIST counts once, and all its SPLICEs follow one another. */
        private void note(int number) {
            boolean known = count > 0 && conflicts[count - 1] == number;
            if (!known && count < conflicts.length) {
                conflicts[count] = number;
                count++;
            }
        }

        /** Without conflicts, operations of equal rank are the same one. */
        void join(Delta into) {
            into.clear();
            int k = 0;
            int m = 0;
            for (int step = 0; step < 2 * Delta.ROOM; step++) {
                boolean left = k < dx.size() && (m >= dy.size() || dx.rank(k) <= dy.rank(m));
                boolean right = m < dy.size() && (k >= dx.size() || dy.rank(m) <= dx.rank(k));
                if (left) {
                    into.addFrom(dx, k);
                } else if (right) {
                    into.addFrom(dy, m);
                } else {
                    return;
                }
                k += left ? 1 : 0;
                m += right ? 1 : 0;
            }
        }
    }

    /** Applies a delta to a version. */
    private static final class Patch {
        /** The kinds are those of all objects that have been made. */
        static boolean fits(Delta delta, Graph v, int[] kinds) {
            for (int k = 0; k < delta.size(); k++) {
                if (!operationFits(delta, k, v, kinds)) {
                    return false;
                }
            }
            for (int o = 0; o < OBJECTS; o++) {
                if (v.length(o) + growth(delta, o) > ITEMS) {
                    return false;
                }
            }
            return true;
        }

        private static boolean operationFits(Delta delta, int k, Graph v, int[] kinds) {
            int o = delta.object(k);
            switch (delta.code(k)) {
                case CREATE:
                    return !v.has(o) && kinds[o] == delta.place(k);
                case SET:
                    return formThen(delta, v, o) == RECORD && contentFits(delta, k, v);
                default:
                    return formThen(delta, v, o) == LIST && delta.end(k) <= v.length(o);
            }
        }

        private static boolean contentFits(Delta delta, int k, Graph v) {
            return delta.tag(k) != REFERENCE || formThen(delta, v, delta.content(k)) != ABSENT;
        }

        private static int formThen(Delta delta, Graph v, int o) {
            return v.has(o) ? v.form(o) : delta.createdKind(o);
        }

        private static int growth(Delta delta, int o) {
            int growth = 0;
            for (int k = 0; k < delta.size(); k++) {
                if (delta.isOn(k, SPLICE, o)) {
                    growth += delta.inserts(k) - delta.deletes(k);
                }
            }
            return growth;
        }

        /** For a delta that fits v. */
        static void build(Delta delta, Graph v, Graph target) {
            target.become(v);
            for (int k = 0; k < delta.size(); k++) {
                int o = delta.object(k);
                if (delta.code(k) == CREATE) {
                    target.admit(o, delta.place(k));
                } else if (delta.code(k) == SET) {
                    target.fill(o, delta.place(k), delta.tag(k), delta.content(k));
                }
            }
            for (int o = 0; o < OBJECTS; o++) {
                if (target.isList(o)) {
                    buildList(delta, o, v, target);
                }
            }
            target.dropUnreached();
        }

        /** Writes the row anew: in place, it could need more room on the way than in the end. */
        private static void buildList(Delta delta, int o, Graph v, Graph target) {
            target.admit(o, LIST);
            int from = 0;
            for (int k = 0; k < delta.size(); k++) {
                if (delta.isOn(k, SPLICE, o)) {
                    copyItems(v, o, from, delta.place(k), target);
                    for (int i = 0; i < delta.inserts(k); i++) {
                        target.append(o, delta.inserted(k, i));
                    }
                    from = delta.end(k);
                }
            }
            copyItems(v, o, from, v.length(o), target);
        }

        private static void copyItems(Graph v, int o, int from, int to, Graph target) {
            for (int i = from; i < to; i++) {
                target.append(o, v.item(o, i));
            }
        }
    }

    /** A row of bytes, and the writing of deltas into it. */
    private static final class Draft {
        static final int MARK = 68;
        static final int END = 0;
        private static final int ROOM = 1200;

        private final int[] bytes = new int[ROOM];
        private int count;

        int size() {
            return count;
        }

        boolean isFull() {
            return count >= ROOM;
        }

        int at(int i) {
            return i >= 0 && i < count ? bytes[i] : BAD;
        }

        void add(int b) {
            if (!isFull()) {
                bytes[count] = b;
                count++;
            }
        }

        /** For n from 0 up to the number of bytes. */
        void shorten(int n) {
            count = n;
        }

        /** The sum of the first n bytes, modulo 256. */
        int sum(int n) {
            int sum = 0;
            for (int i = 0; i < n && i < count; i++) {
                sum = (sum + bytes[i]) & 255;
            }
            return sum;
        }

        void write(Delta delta) {
            count = 0;
            add(MARK);
            for (int k = 0; k < delta.size(); k++) {
                add(delta.code(k));
                add(delta.object(k));
                add(delta.place(k));
                if (delta.code(k) == SET) {
                    writeContent(delta, k);
                } else if (delta.code(k) == SPLICE) {
                    writeSplice(delta, k);
                }
            }
            add(END);
            add(sum(count));
        }

        private void writeContent(Delta delta, int k) {
            add(delta.tag(k));
            if (delta.tag(k) == INT) {
                writeVarint(delta.content(k));
            } else if (delta.tag(k) == REFERENCE) {
                add(delta.content(k));
            }
        }

        private void writeSplice(Delta delta, int k) {
            add(delta.deletes(k));
            add(delta.inserts(k));
            for (int i = 0; i < delta.inserts(k); i++) {
                writeVarint(delta.inserted(k, i));
            }
        }

        /** An int has 32 bits, so five bytes of seven are always enough. */
        private void writeVarint(int v) {
            long u = v >= 0 ? 2L * v : -2L * v - 1;
            for (int k = 0; k < 4 && u > 127; k++) {
                add((int) (u & 127) + 128);
                u >>= 7;
            }
            add((int) u);
        }
    }

    /** Reads the bytes of a draft as a delta, and takes nothing that would not be written so. */
    private static final class Reader {
        private static final long UNSIGNED = 4294967296L;

        private final Draft draft;
        private int at;

        Reader(Draft draft) {
            this.draft = draft;
        }

        /** Whether the draft is the bytes of a delta; if so, into is that delta. A reader reads once. */
        boolean read(Delta into) {
            into.clear();
            if (next() != Draft.MARK) {
                return false;
            }
            for (int k = 0; k <= Delta.ROOM; k++) {
                int code = next();
                if (code == Draft.END) {
                    return endsRightly();
                }
                if (!readOperation(code, into) || !into.endsInOrder()) {
                    return false;
                }
            }
            return false;
        }

        /** The next byte; BAD, which is no byte, when there is none. */
        private int next() {
            int b = draft.at(at);
            at++;
            return b;
        }

        private boolean endsRightly() {
            int sum = draft.sum(at);
            return next() == sum && at == draft.size();
        }

        private boolean readOperation(int code, Delta into) {
            int object = next();
            if (object < 0 || object >= OBJECTS) {
                return false;
            }
            switch (code) {
                case CREATE:
                    return readCreate(object, into);
                case SET:
                    return readSet(object, into);
                case SPLICE:
                    return readSplice(object, into);
                default:
                    return false;
            }
        }

        private boolean readCreate(int object, Delta into) {
            int kind = next();
            if (object == 0 || (kind != RECORD && kind != LIST)) {
                return false;
            }
            into.addCreate(object, kind);
            return true;
        }

        private boolean readSet(int object, Delta into) {
            int slot = next();
            int tag = next();
            if (slot < 0 || slot >= SLOTS || tag < NOTHING || tag > REFERENCE) {
                return false;
            }
            long content = tag == NOTHING ? 0 : tag == INT ? readVarint() : readReference();
            if (content == NONE) {
                return false;
            }
            into.addSet(object, slot, tag, (int) content);
            return true;
        }

        private boolean readSplice(int object, Delta into) {
            int place = next();
            int deletes = next();
            int inserts = next();
            boolean outside = place < 0 || deletes < 0 || place + deletes > ITEMS || inserts < 0 || inserts > ITEMS;
            if (outside || (deletes == 0 && inserts == 0)) {
                return false;
            }
            into.addSplice(object, place, deletes);
            for (int i = 0; i < inserts; i++) {
                long v = readVarint();
                if (v == NONE) {
                    return false;
                }
                into.addInserted((int) v);
            }
            return true;
        }

        private long readReference() {
            int object = next();
            return object >= 0 && object < OBJECTS ? object : NONE;
        }

        /** The int; NONE when the bytes are not those of one, or are more than it needs. */
        private long readVarint() {
            long u = 0;
            for (int shift = 0; shift < 35; shift += 7) {
                int b = next();
                if (b < 0) {
                    return NONE;
                }
                u |= (long) (b & 127) << shift;
                if (b < 128) {
                    boolean longer = b == 0 && shift > 0;
                    return longer || u >= UNSIGNED ? NONE : signed(u);
                }
            }
            return NONE;
        }

        private static long signed(long u) {
            return (u & 1) == 0 ? u >> 1 : -((u + 1) >> 1);
        }
    }
}
