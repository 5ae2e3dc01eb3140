import java.util.ArrayList;
import java.util.Arrays;
import java.util.HashSet;
import java.util.List;
import java.util.Objects;
import java.util.Random;
import java.util.Set;

/** Long runs of chosen calls, compared answer by answer with a second, slow telling of the document. */
public final class LazyStateModel {
    private static final int BAD = -1, FULL = -2, NONE = -3;
    private static final String[] SORTS = {"NNL", "NNNLLR", "NRRL"};
    private static final int RUNS = 10_000, CALLS = 512;

    /** A THROW of an ACT. */
    private static final class Thrown extends RuntimeException {
        private static final long serialVersionUID = 1;
        final int code;

        Thrown(int code) {
            super(null, null, false, false);
            this.code = code;
        }
    }

    /** The document, with whole copies of the state instead of versions and nothing that is loaded late. */
    private static final class Model {
        final List<Integer> types = new ArrayList<>();
        /** By HEIGHT, by OBJECT, by FIELD: a Long, an Integer (LINK) or an int[] or null (ROW). */
        final List<List<Object[]>> heights = new ArrayList<>(List.of(new ArrayList<>()));
        final List<List<long[]>> behaviours = new ArrayList<>();
        final Set<Integer> cached = new HashSet<>();
        final int[] times = new int[24 * 8];
        int fetches, calls, status = BAD;
        Call latest = new Call();

        Model() {
            for (int k = 0; k < 6; k++) {
                behaviours.add(new ArrayList<>());
            }
        }

        int height() {
            return heights.size() - 1;
        }

        boolean isObject(int o) {
            return o >= 0 && o < types.size();
        }

        char sort(int o, int f) {
            boolean there = isObject(o) && f >= 0 && f < SORTS[types.get(o)].length();
            return there ? SORTS[types.get(o)].charAt(f) : '-';
        }

        int object(int type) {
            if (type < 0 || type > 2) return BAD;
            if (types.size() == 24) return FULL;
            types.add(type);
            for (List<Object[]> state : heights) {
                Object[] fields = new Object[SORTS[type].length()];
                for (int f = 0; f < fields.length; f++) {
                    char sort = SORTS[type].charAt(f);
                    fields[f] = sort == 'N' ? (Object) 0L : sort == 'L' ? (Object) NONE : null;
                }
                state.add(fields);
            }
            return types.size() - 1;
        }

        int become(int o, int f, Object v) {
            if (Objects.deepEquals(heights.get(height()).get(o)[f], v)) return height();
            if (height() == 40) return FULL;
            List<Object[]> state = copy(heights.get(height()));
            state.get(o)[f] = v;
            heights.add(state);
            cached.clear();
            return height();
        }

        int number(int o, int f, long v) {
            return sort(o, f) == 'N' ? become(o, f, v) : BAD;
        }

        int link(int o, int f, int p) {
            return sort(o, f) == 'L' && (p == NONE || isObject(p)) ? become(o, f, p) : BAD;
        }

        int row(int o, int f, int n) {
            if (sort(o, f) != 'R' || n != NONE && (n < 0 || n > 8)) return BAD;
            return become(o, f, n == NONE ? null : new int[n]);
        }

        int act(int behaviour, int kind, int a, long b, int c, int d, int e) {
            String[] forms = {"p", "ppp", "ppp", "ppp", "ppf", "pfp", "ppf", "pfp", "ppfp", "pfpp", "pfp", "pfpfp",
                "ppp", "ppp", "-t", "pt", "p", ""};
            if (behaviour < 0 || behaviour > 5 || kind < 0 || kind > 17) return BAD;
            long[] n = {a, b, c, d, e};
            for (int k = 0; k < forms[kind].length(); k++) {
                char form = forms[kind].charAt(k);
                long most = form == 'p' ? 3 : form == 'f' ? 7 : 32;
                if (form != '-' && (n[k] < 0 || n[k] > most)) return BAD;
            }
            List<long[]> acts = behaviours.get(behaviour);
            if (acts.size() == 32) return FULL;
            acts.add(new long[] {kind, a, b, c, d, e});
            return acts.size() - 1;
        }

        int clear(int behaviour) {
            if (behaviour < 0 || behaviour > 5) return BAD;
            int had = behaviours.get(behaviour).size();
            behaviours.get(behaviour).clear();
            return had;
        }

        int refusal(int o, int behaviour) {
            if (!isObject(o) || behaviour < 0 || behaviour > 5) return BAD;
            return height() == 40 ? FULL : 0;
        }

        int call(int o, int behaviour, long v) {
            int refusal = refusal(o, behaviour);
            if (refusal != 0) return refusal;
            calls++;
            List<Object[]> was = heights.get(height());
            latest = new Call();
            latest.work(this, copy(was), behaviours.get(behaviour), o, v);
            if (latest.code != 0) return latest.code;
            for (int p = 0; p < types.size(); p++) {
                for (int f = 0; f < was.get(p).length; f++) {
                    if (!Objects.deepEquals(was.get(p)[f], latest.state.get(p)[f])) {
                        latest.written.add(8 * p + f);
                        times[8 * p + f]++;
                    }
                }
            }
            if (!latest.written.isEmpty()) {
                heights.add(latest.state);
                cached.clear();
            }
            return 0;
        }

        boolean fetch(int o) {
            if (!cached.add(o)) return false;
            fetches++;
            return true;
        }

        long view(int o, int f, int height, int i) {
            status = BAD;
            if (sort(o, f) == '-' || height < 0 || height > height()) return BAD;
            Object is = heights.get(height).get(o)[f];
            if (i == NONE) {
                status = 0;
                if (is instanceof int[] items) return items.length;
                return is == null ? NONE : ((Number) is).longValue();
            }
            if (!(is instanceof int[] items) || i < 0 || i >= items.length) return BAD;
            status = 0;
            return items[i];
        }

        int told(int what) {
            int changed = 0;
            for (int[] entry : latest.touched) {
                changed += entry[1];
            }
            int[] all = {types.size(), height(), fetches, latest.touched.size(), changed, latest.written.size(),
                latest.loaded.size(), latest.done, calls};
            return what < 0 || what > 8 ? BAD : all[what];
        }

        static List<Object[]> copy(List<Object[]> state) {
            List<Object[]> copy = new ArrayList<>();
            for (Object[] fields : state) {
                Object[] mine = fields.clone();
                for (int f = 0; f < mine.length; f++) {
                    if (mine[f] instanceof int[] items) mine[f] = items.clone();
                }
                copy.add(mine);
            }
            return copy;
        }
    }

    private static final class Call {
        final List<int[]> touched = new ArrayList<>();
        final List<Integer> written = new ArrayList<>();
        final Set<Integer> loaded = new HashSet<>();
        final int[] h = {NONE, NONE, NONE, NONE};
        final long[] v = new long[4];
        Model model;
        List<Object[]> state;
        int code, where = NONE, done, next;
        long gave;

        void work(Model model, List<Object[]> state, List<long[]> acts, int o, long told) {
            this.model = model;
            this.state = state;
            h[0] = o;
            v[0] = told;
            int at = 0;
            try {
                while (at < acts.size()) {
                    if (done == 200) throw new Thrown(7);
                    done++;
                    next = at + 1;
                    act(acts.get(at));
                    at = next;
                }
            } catch (Thrown thrown) {
                code = thrown.code;
                where = at;
            }
        }

        void load(int o) {
            if (loaded.add(o)) model.fetch(o);
        }

        void touch(int o, int f, int changed) {
            for (int[] entry : touched) {
                if (entry[0] == 8 * o + f && entry[1] == changed) return;
            }
            touched.add(new int[] {8 * o + f, changed});
        }

        void ask(int handle, int f, char sort) {
            if (h[handle] == NONE) throw new Thrown(1);
            load(h[handle]);
            if (model.sort(h[handle], f) == '-') throw new Thrown(3);
            if (model.sort(h[handle], f) != sort) throw new Thrown(2);
        }

        Object read(int handle, int f, char sort) {
            ask(handle, f, sort);
            touch(h[handle], f, 0);
            return state.get(h[handle])[f];
        }

        void change(int handle, int f, Object to) {
            touch(h[handle], f, 1);
            state.get(h[handle])[f] = to;
        }

        int[] rowWith(int handle, int f, long i) {
            int[] items = (int[]) read(handle, f, 'R');
            if (items == null) throw new Thrown(1);
            if (i < 0 || i >= items.length) throw new Thrown(3);
            return items;
        }

        void act(long[] act) {
            int a = (int) act[1], b = (int) act[2], c = (int) act[3], d = (int) act[4], e = (int) act[5];
            switch ((int) act[0]) {
                case 0 -> v[a] = act[2];
                case 1 -> v[a] = v[b] + v[c];
                case 2 -> v[a] = v[b] - v[c];
                case 3 -> {
                    if (v[c] == 0) throw new Thrown(5);
                    v[a] = v[b] / v[c];
                }
                case 4 -> v[a] = (Long) read(b, c, 'N');
                case 5 -> {
                    ask(a, b, 'N');
                    change(a, b, v[c]);
                }
                case 6 -> h[a] = (Integer) read(b, c, 'L');
                case 7 -> {
                    ask(a, b, 'L');
                    change(a, b, h[c]);
                }
                case 8 -> v[a] = rowWith(b, c, v[d])[(int) v[d]];
                case 9 -> {
                    int[] items = rowWith(a, b, v[c]).clone();
                    items[(int) v[c]] = (int) v[d];
                    change(a, b, items);
                }
                case 10 -> {
                    ask(a, b, 'R');
                    if (v[c] < 0) throw new Thrown(4);
                    if (v[c] > 8) throw new Thrown(8);
                    change(a, b, new int[(int) v[c]]);
                }
                case 11 -> shift((int[]) read(a, b, 'R'), (int[]) read(c, d, 'R'), c, d, v[e]);
                case 12 -> v[a] = h[b] == h[c] ? 1 : 0;
                case 13 -> v[a] = like(h[b], h[c]) ? 1 : 0;
                case 14 -> next = b;
                case 15 -> next = v[a] > 0 ? b : next;
                case 16 -> {
                    gave = v[a];
                    next = 32;
                }
                default -> throw new Thrown(6);
            }
        }

        void shift(int[] from, int[] to, int g, int k, long many) {
            if (from == null || to == null) throw new Thrown(1);
            if (many < 0 || many > from.length || many > to.length) throw new Thrown(3);
            int[] items = to.clone();
            System.arraycopy(from, 0, items, 0, (int) many);
            change(g, k, items);
        }

        boolean like(int p, int q) {
            if (p == q) return true;
            if (p == NONE || q == NONE || !model.types.get(p).equals(model.types.get(q))) return false;
            load(p);
            load(q);
            for (int f = 0; f < state.get(p).length; f++) {
                touch(p, f, 0);
                touch(q, f, 0);
                if (!Objects.deepEquals(state.get(p)[f], state.get(q)[f])) return false;
            }
            return true;
        }
    }

    /** Chooses the calls, makes each on both, and compares. */
    private static final class Pair {
        final LazyState x = new LazyState();
        final Model m = new Model();
        final Random random;
        final int run;
        int wrong;
        /** Calls on the object so far; the document speaks of 512. */
        int made;
        final int[] codes;

        Pair(int run, int[] codes) {
            this.run = run;
            this.codes = codes;
            random = new Random(run);
        }

        void due(String what, long got, long want, long... n) {
            made++;
            if (got != want && wrong++ == 0) {
                System.out.println("run " + run + ": " + what + Arrays.toString(n) + " answered " + got + ", due is " + want);
            }
        }

        int upTo(int most) {
            int choice = random.nextInt(60);
            if (choice == 0) return -1 - random.nextInt(4);
            if (choice == 1) return most + 1;
            if (choice == 2) return random.nextInt();
            return random.nextInt(most + 1);
        }

        int someObject() {
            return upTo(Math.max(0, m.types.size() - 1));
        }

        int fieldOf(int o, char sort) {
            for (int tries = 0; tries < 12; tries++) {
                int f = random.nextInt(6);
                if (m.sort(o, f) == sort) return random.nextInt(40) == 0 ? upTo(7) : f;
            }
            return upTo(7);
        }

        long someNumber() {
            switch (random.nextInt(12)) {
                case 0: return random.nextLong();
                case 1: return Long.MIN_VALUE;
                case 2: return -1;
                case 3: return (1L << 32) + random.nextInt(3);
                default: return random.nextInt(5);
            }
        }

        void oneCall() {
            int choice = random.nextInt(100);
            if (choice < 6) {
                int type = upTo(2);
                due("object", x.object(type), m.object(type), type);
            } else if (choice < 12) {
                changeOne();
            } else if (choice < 50) {
                addAct();
            } else if (choice < 56) {
                int behaviour = upTo(5);
                due("clear", x.clear(behaviour), m.clear(behaviour), behaviour);
            } else if (choice < 85) {
                makeCall();
            } else if (choice < 90) {
                int o = someObject();
                int want = !m.isObject(o) ? BAD : m.fetch(o) ? 1 : 0;
                due("hint", x.hint(o), want, o);
            } else {
                int o = someObject();
                int behaviour = upTo(5);
                int refusal = m.refusal(o, behaviour);
                due("all", x.all(o, behaviour, someNumber()), refusal != 0 ? refusal : 1, o, behaviour);
            }
        }

        void changeOne() {
            int o = someObject();
            int choice = random.nextInt(3);
            int f = fieldOf(o, "NLR".charAt(choice));
            if (choice == 0) {
                long v = someNumber();
                due("number", x.number(o, f, v), m.number(o, f, v), o, f, v);
            } else if (choice == 1) {
                int p = random.nextInt(5) == 0 ? NONE : someObject();
                due("link", x.link(o, f, p), m.link(o, f, p), o, f, p);
            } else {
                int n = random.nextInt(8) == 0 ? NONE : upTo(8);
                due("row", x.row(o, f, n), m.row(o, f, n), o, f, n);
            }
        }

        /** Mostly HANDLE 0, which alone is an OBJECT at first. */
        int someHandle() {
            return random.nextInt(5) < 3 ? 0 : upTo(3);
        }

        void addAct() {
            String sorts = "----NNLLRRR-------";
            int behaviour = upTo(5);
            int kind = random.nextInt(3) == 0 ? upTo(17) : 4 + random.nextInt(10);
            char sort = kind >= 0 && kind < 18 ? sorts.charAt(kind) : '-';
            int f = sort == '-' ? upTo(3) : fieldOf(random.nextInt(m.types.size() + 1), sort);
            boolean handleFirst = kind == 5 || kind == 7 || kind >= 9 && kind <= 11;
            boolean handleSecond = kind == 4 || kind == 6 || kind == 8;
            int a = handleFirst ? someHandle() : upTo(3);
            long b = handleFirst ? f : handleSecond ? someHandle() : kind == 0 ? someNumber()
                : kind == 14 || kind == 15 ? upTo(32) : upTo(3);
            if (random.nextInt(80) == 0) b += 1L << 32;
            int c = handleSecond ? f : kind == 11 ? someHandle() : upTo(3);
            int d = kind == 11 ? fieldOf(random.nextInt(m.types.size() + 1), 'R') : upTo(3);
            int e = upTo(3);
            due("act", x.act(behaviour, kind, a, b, c, d, e), m.act(behaviour, kind, a, b, c, d, e),
                behaviour, kind, a, b, c, d, e);
        }

        void makeCall() {
            int o = someObject();
            int behaviour = upTo(5);
            long v = someNumber();
            int want = m.call(o, behaviour, v);
            due("call", x.call(o, behaviour, v), want, o, behaviour, v);
            if (want >= 0) codes[want]++;
        }

        /** One answer that changes nothing but the status. */
        void oneLook() {
            switch (random.nextInt(12)) {
                case 0 -> due("gave", x.gave(), m.latest.gave);
                case 1 -> due("where", x.where(), m.latest.where);
                case 2, 3 -> {
                    int what = upTo(8);
                    due("told", x.told(what), m.told(what), what);
                }
                case 4, 5 -> lookAtTouched(upTo(m.latest.touched.size()), upTo(1));
                case 6 -> lookAtWritten(upTo(m.latest.written.size()));
                case 7 -> {
                    int o = someObject();
                    due("loaded", x.loaded(o), !m.isObject(o) ? BAD : m.latest.loaded.contains(o) ? 1 : 0, o);
                }
                case 8 -> {
                    int o = someObject();
                    due("cached", x.cached(o), !m.isObject(o) ? BAD : m.cached.contains(o) ? 1 : 0, o);
                }
                case 9 -> {
                    int leaf = random.nextInt(8) == 0 ? upTo(191) : 8 * someObject() + random.nextInt(6);
                    boolean there = leaf >= 0 && m.sort(leaf / 8, leaf % 8) != '-';
                    due("times", x.times(leaf), there ? m.times[leaf] : BAD, leaf);
                }
                case 10 -> due("status", x.status(), m.status);
                default -> lookAtField(someObject(), upTo(5), upTo(m.height()), random.nextInt(3) == 0 ? upTo(8) : NONE);
            }
        }

        void lookAtTouched(int k, int what) {
            boolean bad = k < 0 || what < 0 || what > 1;
            boolean there = !bad && k < m.latest.touched.size();
            due("touched", x.touched(k, what), bad ? BAD : there ? m.latest.touched.get(k)[what] : NONE, k, what);
        }

        void lookAtWritten(int k) {
            int many = m.latest.written.size();
            due("written", x.written(k), k < 0 ? BAD : k < many ? m.latest.written.get(k) : NONE, k);
        }

        void lookAtField(int o, int f, int height, int i) {
            due("view", x.view(o, f, height, i), m.view(o, f, height, i), o, f, height, i);
        }
    }

    public static void main(String[] args) {
        int wrong = 0;
        int[] codes = new int[9];
        for (int run = 0; run < RUNS && wrong == 0; run++) {
            Pair pair = new Pair(run, codes);
            int onlyLooks = CALLS - pair.random.nextInt(CALLS);
            while (pair.made < CALLS && pair.wrong == 0) {
                if (pair.made < onlyLooks && pair.random.nextInt(3) > 0) {
                    pair.oneCall();
                } else {
                    pair.oneLook();
                }
            }
            wrong += pair.wrong;
        }
        System.out.println("calls by how they ended: " + Arrays.toString(codes));
        for (int code = 0; code < codes.length; code++) {
            if (wrong == 0 && codes[code] == 0) {
                System.out.println("no call ended with " + code + ": the runs show too little");
                wrong++;
            }
        }
        System.out.println(wrong == 0 ? "all answers are as due" : "answers are not as due");
        if (wrong != 0) System.exit(1);
    }
}
