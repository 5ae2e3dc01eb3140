import java.util.Arrays;

/** State that is loaded when it is read. DOC.md says what each call answers. */
public final class LazyState {
    public static final int BAD = -1, FULL = -2, NONE = -3;

    private static final int MOST_OBJECTS = 24;
    private static final int CLASSES = 3;
    private static final int FIELDS = 8;
    private static final int LEAVES = MOST_OBJECTS * FIELDS;
    private static final int MOST_ITEMS = 8;
    private static final int MOST_HEIGHT = 40;
    private static final int BEHAVIOURS = 6;
    private static final int MOST_ACTS = 32;
    private static final int MOST_STEPS = 200;
    /** How many HANDLES, and how many VALUES, a CALL has. */
    private static final int PLACES = 4;

    private final Body[] objects = new Body[MOST_OBJECTS];
    private int objectCount;
    private int heightNow;
    private final Behaviour[] behaviours = new Behaviour[BEHAVIOURS];
    private final Run latest = new Run();
    /** The two CALLS that all() compares; nothing of them is kept. */
    private final Run lazy = new Run();
    private final Run eager = new Run();
    private int callCount;
    private int fetchCount;
    /** A bit for each OBJECT that is CACHED at the HEIGHT as it is. */
    private int cachedBits;
    private final int[] writtenLeaves = new int[LEAVES];
    private int writtenCount;
    private final int[] writeCounts = new int[LEAVES];
    private int viewStatus = BAD;

    public LazyState() {
        for (int k = 0; k < BEHAVIOURS; k++) {
            behaviours[k] = new Behaviour();
        }
    }

    public int object(int type) {
        if (type < 0 || type >= CLASSES) {
            return BAD;
        }
        if (objectCount >= MOST_OBJECTS) {
            return FULL;
        }
        objects[objectCount] = new Body(type);
        objectCount++;
        return objectCount - 1;
    }

    public int number(int o, int f, long v) {
        return sortAt(o, f) == Body.NUMBER ? changeCell(o, f, v) : BAD;
    }

    public int link(int o, int f, int p) {
        if (sortAt(o, f) != Body.LINK || (p != NONE && !isObject(p))) {
            return BAD;
        }
        return changeCell(o, f, p);
    }

    public int row(int o, int f, int n) {
        if (sortAt(o, f) != Body.ROW || (n != NONE && (n < 0 || n > MOST_ITEMS))) {
            return BAD;
        }
        if (objects[o].hasBlankRow(f, n)) {
            return heightNow;
        }
        if (heightNow >= MOST_HEIGHT) {
            return FULL;
        }
        raiseHeight();
        newVersion(o, objects[o]).renewRow(f, n);
        return heightNow;
    }

    public int act(int behaviour, int kind, int a, long b, int c, int d, int e) {
        if (!isBehaviour(behaviour) || kind < 0 || kind >= Act.KINDS) {
            return BAD;
        }
        Act more = new Act(kind, a, b, c, d, e);
        return more.isAsTold() ? behaviours[behaviour].append(more) : BAD;
    }

    public int clear(int behaviour) {
        return isBehaviour(behaviour) ? behaviours[behaviour].empty() : BAD;
    }

    public int call(int o, int behaviour, long v) {
        int refusal = callRefusal(o, behaviour);
        if (refusal != 0) {
            return refusal;
        }
        latest.start(objects, o, v);
        latest.work(behaviours[behaviour]);
        callCount++;
        fetchCount += Integer.bitCount(latest.loadedBits & ~cachedBits);
        cachedBits |= latest.loadedBits;
        writtenCount = 0;
        if (latest.thrown == 0) {
            keepChanges();
        }
        return latest.thrown;
    }

    public long gave() {
        return latest.gift;
    }

    public int where() {
        return latest.thrownAt;
    }

    public int touched(int k, int what) {
        if (k < 0 || what < 0 || what > 1) {
            return BAD;
        }
        Trace trace = latest.trace;
        if (k >= trace.count) {
            return NONE;
        }
        return what == 0 ? trace.entries[k] >> 1 : trace.entries[k] & 1;
    }

    public int written(int k) {
        if (k < 0) {
            return BAD;
        }
        return k < writtenCount ? writtenLeaves[k] : NONE;
    }

    public int loaded(int o) {
        return isObject(o) ? bitOf(latest.loadedBits, o) : BAD;
    }

    public int cached(int o) {
        return isObject(o) ? bitOf(cachedBits, o) : BAD;
    }

    public int hint(int o) {
        if (!isObject(o)) {
            return BAD;
        }
        int fetched = 1 - bitOf(cachedBits, o);
        fetchCount += fetched;
        cachedBits |= 1 << o;
        return fetched;
    }

    public int times(int leaf) {
        if (leaf < 0 || sortAt(leaf / FIELDS, leaf % FIELDS) == Body.ABSENT) {
            return BAD;
        }
        return writeCounts[leaf];
    }

    public int all(int o, int behaviour, long v) {
        int refusal = callRefusal(o, behaviour);
        if (refusal != 0) {
            return refusal;
        }
        lazy.start(objects, o, v);
        lazy.work(behaviours[behaviour]);
        eager.start(objects, o, v);
        eager.loadAhead(objectCount);
        eager.work(behaviours[behaviour]);
        return lazy.endsLike(eager) && lazy.changesLike(eager, objectCount) ? 1 : 0;
    }

    public long view(int o, int f, int height, int i) {
        viewStatus = BAD;
        int sort = sortAt(o, f);
        if (sort == Body.ABSENT || height < 0 || height > heightNow) {
            return BAD;
        }
        Body body = objects[o].asOf(height);
        if (i == NONE) {
            viewStatus = 0;
            return body.cells[f];
        }
        if (sort != Body.ROW || !body.hasItem(f, i)) {
            return BAD;
        }
        viewStatus = 0;
        return body.items[Body.itemPlace(f, i)];
    }

    public int status() {
        return viewStatus;
    }

    public int told(int what) {
        switch (what) {
            case 0: return objectCount;
            case 1: return heightNow;
            case 2: return fetchCount;
            case 3: return latest.trace.count;
            case 4: return latest.trace.changedCount;
            case 5: return writtenCount;
            case 6: return Integer.bitCount(latest.loadedBits);
            case 7: return latest.done;
            case 8: return callCount;
            default: return BAD;
        }
    }

    private boolean isObject(int o) {
        return o >= 0 && o < objectCount;
    }

    private static boolean isBehaviour(int behaviour) {
        return behaviour >= 0 && behaviour < BEHAVIOURS;
    }

    private static int bitOf(int bits, int o) {
        return (bits >> o) & 1;
    }

    private int sortAt(int o, int f) {
        return isObject(o) ? objects[o].sortOf(f) : Body.ABSENT;
    }

    private int callRefusal(int o, int behaviour) {
        if (!isObject(o) || !isBehaviour(behaviour)) {
            return BAD;
        }
        return heightNow >= MOST_HEIGHT ? FULL : 0;
    }

    private int changeCell(int o, int f, long v) {
        if (objects[o].cells[f] == v) {
            return heightNow;
        }
        if (heightNow >= MOST_HEIGHT) {
            return FULL;
        }
        raiseHeight();
        newVersion(o, objects[o]).cells[f] = v;
        return heightNow;
    }

    private void raiseHeight() {
        heightNow++;
        cachedBits = 0;
    }

    /** What an OBJECT is from the HEIGHT as it is on, with the contents told; what it was stays behind it. */
    private Body newVersion(int o, Body contents) {
        Body version = new Body(contents.type);
        version.copyFrom(contents);
        version.since = heightNow;
        version.before = objects[o];
        objects[o] = version;
        return version;
    }

    private void keepChanges() {
        for (int o = 0; o < objectCount; o++) {
            int ahead = writtenCount;
            if (bitOf(latest.loadedBits, o) == 1) {
                noteWritten(o);
            }
            if (writtenCount > ahead) {
                if (ahead == 0) {
                    raiseHeight();
                }
                newVersion(o, latest.bodyOf(o));
            }
        }
    }

    private void noteWritten(int o) {
        for (int f = 0; f < FIELDS; f++) {
            if (!objects[o].hasSameField(latest.bodyOf(o), f)) {
                int leaf = FIELDS * o + f;
                writtenLeaves[writtenCount] = leaf;
                writtenCount++;
                writeCounts[leaf]++;
            }
        }
    }

    /** The contents of one OBJECT: as they are from some HEIGHT on, or as a CALL has them. */
    private static final class Body {
        static final int ABSENT = 0, NUMBER = 1, LINK = 2, ROW = 3;
        /** What sort each FIELD is of, eight for each CLASS. */
        private static final int[] SORTS = {
            NUMBER, NUMBER, LINK, ABSENT, ABSENT, ABSENT, ABSENT, ABSENT,
            NUMBER, NUMBER, NUMBER, LINK, LINK, ROW, ABSENT, ABSENT,
            NUMBER, ROW, ROW, LINK, ABSENT, ABSENT, ABSENT, ABSENT,
        };
        private static final int MOST_ROWS = 2;

        final int type;
        /** By FIELD: the NUMBER, the LINK, or how many ITEMS the ROW has. */
        final long[] cells = new long[FIELDS];
        final int[] items = new int[MOST_ROWS * MOST_ITEMS];
        int since;
        Body before;

        Body(int type) {
            this.type = type;
            for (int f = 0; f < FIELDS; f++) {
                int sort = SORTS[type * FIELDS + f];
                cells[f] = sort == LINK || sort == ROW ? NONE : 0;
            }
        }

        /** Where ITEM i is among the items: only FIELD 2 is ever the second ROW of its OBJECT. */
        static int itemPlace(int f, int i) {
            return (f == 2 ? MOST_ITEMS : 0) + i;
        }

        int sortOf(int f) {
            return f >= 0 && f < FIELDS ? SORTS[type * FIELDS + f] : ABSENT;
        }

        boolean hasItem(int f, long i) {
            return i >= 0 && i < cells[f];
        }

        boolean hasBlankRow(int f, int n) {
            if (cells[f] != n) {
                return false;
            }
            for (int i = 0; i < MOST_ITEMS; i++) {
                if (items[itemPlace(f, i)] != 0) {
                    return false;
                }
            }
            return true;
        }

        /** Clears all the room of the ROW, so that what lies behind its ITEMS is always 0. */
        void renewRow(int f, int n) {
            cells[f] = n;
            for (int i = 0; i < MOST_ITEMS; i++) {
                items[itemPlace(f, i)] = 0;
            }
        }

        boolean hasSameField(Body other, int f) {
            if (cells[f] != other.cells[f]) {
                return false;
            }
            return sortOf(f) != ROW || hasSameItems(other, f);
        }

        /** Whether two ROWS of as many ITEMS have the same ones. */
        private boolean hasSameItems(Body other, int f) {
            for (int i = 0; i < MOST_ITEMS; i++) {
                if (items[itemPlace(f, i)] != other.items[itemPlace(f, i)]) {
                    return false;
                }
            }
            return true;
        }

        void copyFrom(Body other) {
            System.arraycopy(other.cells, 0, cells, 0, FIELDS);
            System.arraycopy(other.items, 0, items, 0, MOST_ROWS * MOST_ITEMS);
        }

        /** The version of that HEIGHT; the first one holds for all HEIGHTS ahead of it, too. */
        Body asOf(int height) {
            Body version = this;
            while (version.before != null && version.since > height) {
                version = version.before;
            }
            return version;
        }
    }

    private static final class Act {
        static final int SET = 0, ADD = 1, LESS = 2, OVER = 3, GET = 4, PUT = 5, LINK = 6, TIE = 7, ITEM = 8,
            LAY = 9, ROW = 10, SHIFT = 11, SAME = 12, LIKE = 13, GO = 14, IF = 15, GIVE = 16, THROW = 17;
        static final int KINDS = 18;
        private static final int NUMBERS = 5;
        /** A number that is not looked at, or may be any. */
        private static final int ANY = -1;
        /** The most that a, b, c, d, e may be, for each kind: 3 a VALUE or HANDLE, 7 a FIELD, 32 an ACT. */
        private static final int[] MOST = {
            3, ANY, ANY, ANY, ANY,
            3, 3, 3, ANY, ANY,
            3, 3, 3, ANY, ANY,
            3, 3, 3, ANY, ANY,
            3, 3, 7, ANY, ANY,
            3, 7, 3, ANY, ANY,
            3, 3, 7, ANY, ANY,
            3, 7, 3, ANY, ANY,
            3, 3, 7, 3, ANY,
            3, 7, 3, 3, ANY,
            3, 7, 3, ANY, ANY,
            3, 7, 3, 7, 3,
            3, 3, 3, ANY, ANY,
            3, 3, 3, ANY, ANY,
            ANY, 32, ANY, ANY, ANY,
            3, 32, ANY, ANY, ANY,
            3, ANY, ANY, ANY, ANY,
            ANY, ANY, ANY, ANY, ANY,
        };

        final int kind;
        final int a;
        final long b;
        final int c;
        final int d;
        final int e;

        Act(int kind, int a, long b, int c, int d, int e) {
            this.kind = kind;
            this.a = a;
            this.b = b;
            this.c = c;
            this.d = d;
            this.e = e;
        }

        boolean isAsTold() {
            return fits(0, a) && fits(1, b) && fits(2, c) && fits(3, d) && fits(4, e);
        }

        private boolean fits(int which, long n) {
            int most = MOST[kind * NUMBERS + which];
            return most == ANY || (n >= 0 && n <= most);
        }
    }

    private static final class Behaviour {
        private final Act[] acts = new Act[MOST_ACTS];
        private int size;

        int append(Act more) {
            if (size >= MOST_ACTS) {
                return FULL;
            }
            acts[size] = more;
            size++;
            return size - 1;
        }

        int empty() {
            int had = size;
            size = 0;
            return had;
        }

        /** The ACT of that number; null is the end. */
        Act actAt(int k) {
            return k >= 0 && k < size ? acts[k] : null;
        }
    }

    /** What a CALL has TOUCHED. */
    private static final class Trace {
        /** In order: twice the LEAF, and 1 more if it was changed. */
        final int[] entries = new int[2 * LEAVES];
        int count;
        int changedCount;
        /** For each OBJECT a bit for each FIELD that stands among the entries already. */
        private final int[] readBits = new int[MOST_OBJECTS];
        private final int[] changedBits = new int[MOST_OBJECTS];

        void restart() {
            count = 0;
            changedCount = 0;
            Arrays.fill(readBits, 0);
            Arrays.fill(changedBits, 0);
        }

        void noteRead(int o, int f) {
            if ((readBits[o] & (1 << f)) == 0) {
                readBits[o] |= 1 << f;
                entries[count] = 2 * (FIELDS * o + f);
                count++;
            }
        }

        void noteChanged(int o, int f) {
            if ((changedBits[o] & (1 << f)) == 0) {
                changedBits[o] |= 1 << f;
                entries[count] = 2 * (FIELDS * o + f) + 1;
                count++;
                changedCount++;
            }
        }

        boolean isSameAs(Trace other) {
            if (count != other.count) {
                return false;
            }
            for (int k = 0; k < count; k++) {
                if (entries[k] != other.entries[k]) {
                    return false;
                }
            }
            return true;
        }
    }

    /** One CALL: it works on copies of the OBJECTS that it has LOADED, and leaves the STATE as it is. */
    private static final class Run {
        private static final int NULL = 1, CAST = 2, INDEX = 3, SIZE = 4, ZERO = 5, OWN = 6, STEPS = 7, ROOM = 8;

        final Trace trace = new Trace();
        /** A bit for each OBJECT that is LOADED. */
        int loadedBits;
        int done;
        long gift;
        /** The THROW, or 0. */
        int thrown;
        int thrownAt = NONE;
        private Body[] state;
        /** The copies; one that is not LOADED is left over from an earlier CALL. */
        private final Body[] copies = new Body[MOST_OBJECTS];
        private final int[] handles = new int[PLACES];
        private final long[] values = new long[PLACES];
        private int next;

        void start(Body[] state, int o, long v) {
            this.state = state;
            trace.restart();
            loadedBits = 0;
            done = 0;
            gift = 0;
            thrown = 0;
            thrownAt = NONE;
            Arrays.fill(handles, NONE);
            handles[0] = o;
            Arrays.fill(values, 0);
            values[0] = v;
        }

        void loadAhead(int objectCount) {
            for (int o = 0; o < objectCount; o++) {
                load(o);
            }
        }

        void work(Behaviour behaviour) {
            int at = 0;
            for (int step = 0; step <= MOST_STEPS; step++) {
                Act act = behaviour.actAt(at);
                if (act == null) {
                    return;
                }
                if (step == MOST_STEPS) {
                    fail(STEPS, at);
                    return;
                }
                done = step + 1;
                next = at + 1;
                int refusal = perform(act);
                if (refusal != 0) {
                    fail(refusal, at);
                    return;
                }
                at = next;
            }
        }

        private void fail(int refusal, int at) {
            thrown = refusal;
            thrownAt = at;
        }

        boolean endsLike(Run other) {
            return thrown == other.thrown && thrownAt == other.thrownAt && gift == other.gift
                && trace.isSameAs(other.trace);
        }

        boolean changesLike(Run other, int objectCount) {
            if (thrown != 0) {
                return true;
            }
            for (int o = 0; o < objectCount; o++) {
                for (int f = 0; f < FIELDS; f++) {
                    if (!bodyOf(o).hasSameField(other.bodyOf(o), f)) {
                        return false;
                    }
                }
            }
            return true;
        }

        /** An OBJECT as this CALL sees it. */
        Body bodyOf(int o) {
            return bitOf(loadedBits, o) == 1 ? copies[o] : state[o];
        }

        private void load(int o) {
            if (bitOf(loadedBits, o) == 1) {
                return;
            }
            if (copies[o] == null) {
                copies[o] = new Body(state[o].type);
            }
            copies[o].copyFrom(state[o]);
            loadedBits |= 1 << o;
        }

        /** Works an ACT: its THROW, or 0. */
        private int perform(Act act) {
            int a = act.a;
            int b = (int) act.b;
            int c = act.c;
            switch (act.kind) {
                case Act.SET: return setValue(a, act.b);
                case Act.ADD: return setValue(a, values[b] + values[c]);
                case Act.LESS: return setValue(a, values[b] - values[c]);
                case Act.OVER: return values[c] == 0 ? ZERO : setValue(a, values[b] / values[c]);
                case Act.GET: return get(a, b, c);
                case Act.PUT: return put(a, b, Body.NUMBER, values[c]);
                case Act.LINK: return follow(a, b, c);
                case Act.TIE: return put(a, b, Body.LINK, handles[c]);
                case Act.ITEM: return getItem(a, b, c, act.d);
                case Act.LAY: return lay(a, b, c, act.d);
                case Act.ROW: return renew(a, b, values[c]);
                case Act.SHIFT: return shift(act);
                case Act.SAME: return setValue(a, handles[b] == handles[c] ? 1 : 0);
                case Act.LIKE: return setValue(a, areAlike(handles[b], handles[c]) ? 1 : 0);
                case Act.GO: return goOnAt(b);
                case Act.IF: return values[a] > 0 ? goOnAt(b) : 0;
                case Act.GIVE: return end(values[a]);
                case Act.THROW:
                default: return OWN;
            }
        }

        private int setValue(int x, long v) {
            values[x] = v;
            return 0;
        }

        private int goOnAt(int act) {
            next = act;
            return 0;
        }

        private int end(long v) {
            gift = v;
            return goOnAt(MOST_ACTS);
        }

        /** Asks a HANDLE for a FIELD of a sort, which loads its OBJECT: the THROW, or 0. */
        private int ask(int h, int f, int sort) {
            int o = handles[h];
            if (o == NONE) {
                return NULL;
            }
            load(o);
            int found = copies[o].sortOf(f);
            if (found == Body.ABSENT) {
                return INDEX;
            }
            return found == sort ? 0 : CAST;
        }

        /** What is behind a HANDLE that was asked, for reading that FIELD. */
        private Body read(int h, int f) {
            trace.noteRead(handles[h], f);
            return copies[handles[h]];
        }

        /** What is behind a HANDLE that was asked, for changing that FIELD. */
        private Body change(int h, int f) {
            trace.noteChanged(handles[h], f);
            return copies[handles[h]];
        }

        private int get(int x, int h, int f) {
            int refusal = ask(h, f, Body.NUMBER);
            return refusal != 0 ? refusal : setValue(x, read(h, f).cells[f]);
        }

        private int follow(int g, int h, int f) {
            int refusal = ask(h, f, Body.LINK);
            if (refusal == 0) {
                handles[g] = (int) read(h, f).cells[f];
            }
            return refusal;
        }

        private int put(int h, int f, int sort, long v) {
            int refusal = ask(h, f, sort);
            if (refusal == 0) {
                change(h, f).cells[f] = v;
            }
            return refusal;
        }

        private int getItem(int x, int h, int f, int y) {
            int refusal = ask(h, f, Body.ROW);
            if (refusal != 0) {
                return refusal;
            }
            Body body = read(h, f);
            refusal = itemRefusal(body, f, values[y]);
            return refusal != 0 ? refusal : setValue(x, body.items[Body.itemPlace(f, (int) values[y])]);
        }

        private int lay(int h, int f, int y, int x) {
            int refusal = ask(h, f, Body.ROW);
            if (refusal != 0) {
                return refusal;
            }
            refusal = itemRefusal(read(h, f), f, values[y]);
            if (refusal == 0) {
                change(h, f).items[Body.itemPlace(f, (int) values[y])] = (int) values[x];
            }
            return refusal;
        }

        private static int itemRefusal(Body body, int f, long i) {
            if (body.cells[f] == NONE) {
                return NULL;
            }
            return body.hasItem(f, i) ? 0 : INDEX;
        }

        private int renew(int h, int f, long n) {
            int refusal = ask(h, f, Body.ROW);
            if (refusal != 0) {
                return refusal;
            }
            if (n < 0) {
                return SIZE;
            }
            if (n > MOST_ITEMS) {
                return ROOM;
            }
            change(h, f).renewRow(f, (int) n);
            return 0;
        }

        private int shift(Act act) {
            int f = (int) act.b;
            int refusal = ask(act.a, f, Body.ROW);
            if (refusal != 0) {
                return refusal;
            }
            // the first LEAF is read even if the other HANDLE throws
            Body from = read(act.a, f);
            int k = act.d;
            refusal = ask(act.c, k, Body.ROW);
            if (refusal != 0) {
                return refusal;
            }
            Body to = read(act.c, k);
            if (from.cells[f] == NONE || to.cells[k] == NONE) {
                return NULL;
            }
            long many = values[act.e];
            if (many < 0 || many > from.cells[f] || many > to.cells[k]) {
                return INDEX;
            }
            change(act.c, k);
            System.arraycopy(from.items, Body.itemPlace(f, 0), to.items, Body.itemPlace(k, 0), (int) many);
            return 0;
        }

        private boolean areAlike(int p, int q) {
            if (p == q) {
                return true;
            }
            if (p == NONE || q == NONE || state[p].type != state[q].type) {
                return false;
            }
            load(p);
            load(q);
            for (int f = 0; f < FIELDS && copies[p].sortOf(f) != Body.ABSENT; f++) {
                trace.noteRead(p, f);
                trace.noteRead(q, f);
                if (!copies[p].hasSameField(copies[q], f)) {
                    return false;
                }
            }
            return true;
        }
    }
}
