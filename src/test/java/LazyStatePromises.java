/** Each promise of the document: ordinary inputs, the edges that it names, and wrong inputs. */
public final class LazyStatePromises {
    private static final int BAD = LazyState.BAD, FULL = LazyState.FULL, NONE = LazyState.NONE;
    private static final int SET = 0, ADD = 1, LESS = 2, OVER = 3, GET = 4, PUT = 5, LINK = 6, TIE = 7, ITEM = 8,
        LAY = 9, ROW = 10, SHIFT = 11, SAME = 12, LIKE = 13, GO = 14, IF = 15, GIVE = 16, THROW = 17;
    private static final int NULL = 1, CAST = 2, INDEX = 3, SIZE = 4, ZERO = 5, OWN = 6, STEPS = 7, ROOM = 8;

    private static int wrong = 0;
    private static int checks = 0;

    private static void due(String what, long got, long want) {
        checks++;
        if (got != want) {
            wrong++;
            System.out.println(what + " answered " + got + ", due is " + want);
        }
    }

    public static void main(String[] args) {
        constants();
        newObject();
        object();
        fields();
        number();
        link();
        row();
        act();
        actBounds();
        clear();
        call();
        callRefusals();
        arithmetic();
        jumps();
        steps();
        handlesWithFields();
        numbersAndLinks();
        items();
        fullRows();
        newRows();
        shift();
        shiftThrows();
        same();
        like();
        likeRows();
        ownChanges();
        throwsLeaveNothing();
        gave();
        where();
        touched();
        touchedOnce();
        touchedByThrows();
        touchedByLike();
        written();
        loaded();
        cached();
        hint();
        times();
        all();
        view();
        viewOfRows();
        status();
        told();
        refusedCallsChangeNothing();
        fullHeight();
        manyWrites();
        System.out.println(checks - wrong + " answers as due, " + wrong + " not");
        if (wrong != 0) {
            System.exit(1);
        }
    }

    /** An object with one OBJECT for each CLASS told. */
    private static LazyState with(int... types) {
        LazyState x = new LazyState();
        for (int type : types) {
            x.object(type);
        }
        return x;
    }

    /** An ACT behind the others of BEHAVIOUR 0. */
    private static void then(LazyState x, int kind, long... n) {
        int[] rest = new int[5];
        for (int k = 0; k < n.length; k++) {
            rest[k] = (int) n[k];
        }
        int answer = x.act(0, kind, rest[0], n.length > 1 ? n[1] : 0, rest[2], rest[3], rest[4]);
        if (answer < 0) {
            due("act of kind " + kind, answer, 0);
        }
    }

    /** Adds GIVE x, calls OBJECT 0 and empties BEHAVIOUR 0. */
    private static void gives(String what, LazyState x, long v, int value, long want) {
        then(x, GIVE, value);
        due(what + ": call", x.call(0, 0, v), 0);
        due(what + ": gave", x.gave(), want);
        x.clear(0);
    }

    private static void throwsAt(String what, LazyState x, long v, int want, int at) {
        due(what + ": call", x.call(0, 0, v), want);
        due(what + ": where", x.where(), at);
        due(what + ": gave", x.gave(), 0);
        x.clear(0);
    }

    private static void touches(String what, LazyState x, int... leafAndChanged) {
        int count = leafAndChanged.length / 2;
        due(what + ": told(3)", x.told(3), count);
        for (int k = 0; k < count; k++) {
            due(what + ": touched(" + k + ", 0)", x.touched(k, 0), leafAndChanged[2 * k]);
            due(what + ": touched(" + k + ", 1)", x.touched(k, 1), leafAndChanged[2 * k + 1]);
        }
        due(what + ": one more", x.touched(count, 0), NONE);
    }

    private static void writes(String what, LazyState x, int... leaves) {
        due(what + ": told(5)", x.told(5), leaves.length);
        for (int k = 0; k < leaves.length; k++) {
            due(what + ": written(" + k + ")", x.written(k), leaves[k]);
        }
        due(what + ": one more", x.written(leaves.length), NONE);
    }

    private static void constants() {
        due("BAD", BAD, -1);
        due("FULL", FULL, -2);
        due("NONE", NONE, -3);
    }

    // promise 1
    private static void newObject() {
        LazyState x = new LazyState();
        for (int what = 0; what <= 8; what++) {
            due("new: told(" + what + ")", x.told(what), 0);
        }
        for (int behaviour = 0; behaviour < 6; behaviour++) {
            due("new: clear", x.clear(behaviour), 0);
        }
        due("new: gave", x.gave(), 0);
        due("new: where", x.where(), NONE);
        due("new: touched", x.touched(0, 0), NONE);
        due("new: written", x.written(0), NONE);
        due("new: loaded", x.loaded(0), BAD);
        due("new: status", x.status(), BAD);
        due("new: call", x.call(0, 0, 0), BAD);
    }

    // promise 2
    private static void object() {
        LazyState x = new LazyState();
        due("object(-1)", x.object(-1), BAD);
        due("object(3)", x.object(3), BAD);
        due("object(MIN)", x.object(Integer.MIN_VALUE), BAD);
        for (int o = 0; o < 24; o++) {
            due("object " + o, x.object(o % 3), o);
        }
        due("object 24", x.object(0), FULL);
        due("object 24 of no class", x.object(3), BAD);
        due("object: count", x.told(0), 24);
        due("object: height", x.told(1), 0);

        LazyState y = with(0);
        y.number(0, 0, 4);
        y.hint(0);
        due("object: later", y.object(2), 1);
        due("object: height stays", y.told(1), 1);
        due("object: what is cached stays", y.cached(0), 1);
        due("object: new one is not cached", y.cached(1), 0);
    }

    private static void fields() {
        String[] sorts = {"NNL-----", "NNNLLR--", "NRRL----"};
        LazyState x = with(0, 1, 2);
        for (int o = 0; o < 3; o++) {
            for (int f = 0; f < 8; f++) {
                char sort = sorts[o].charAt(f);
                String what = " of FIELD " + f + " of CLASS " + o;
                due("number" + what, x.number(o, f, 0), sort == 'N' ? 0 : BAD);
                due("link" + what, x.link(o, f, NONE), sort == 'L' ? 0 : BAD);
                due("row" + what, x.row(o, f, NONE), sort == 'R' ? 0 : BAD);
                due("times" + what, x.times(8 * o + f), sort == '-' ? BAD : 0);
                long first = sort == '-' ? BAD : sort == 'N' ? 0 : NONE;
                due("view" + what, x.view(o, f, 0, NONE), first);
            }
        }
    }

    // promise 3
    private static void number() {
        LazyState x = with(0, 1, 2);
        due("number", x.number(0, 1, Long.MIN_VALUE), 1);
        due("number again", x.number(0, 1, Long.MIN_VALUE), 1);
        due("number 0 as at first", x.number(0, 0, 0), 1);
        due("number of class 1", x.number(1, 2, -1), 2);
        due("number of class 2", x.number(2, 0, 7), 3);
        due("number: value", x.view(0, 1, 3, NONE), Long.MIN_VALUE);
        due("number: other field", x.view(0, 0, 3, NONE), 0);
        due("number of a link", x.number(0, 2, 1), BAD);
        due("number of a row", x.number(1, 5, 1), BAD);
        due("number of no field", x.number(0, 3, 1), BAD);
        due("number of field -1", x.number(0, -1, 1), BAD);
        due("number of field 8", x.number(1, 8, 1), BAD);
        due("number of object 3", x.number(3, 0, 1), BAD);
        due("number of object -1", x.number(-1, 0, 1), BAD);
        due("number: height", x.told(1), 3);
        due("number writes nothing by a call", x.times(1), 0);
    }

    // promise 4
    private static void link() {
        LazyState x = with(0, 1, 2);
        due("link none as at first", x.link(0, 2, NONE), 0);
        due("link", x.link(0, 2, 1), 1);
        due("link again", x.link(0, 2, 1), 1);
        due("link to object 0", x.link(1, 4, 0), 2);
        due("link to itself", x.link(2, 3, 2), 3);
        due("link none", x.link(0, 2, NONE), 4);
        due("link: now", x.view(0, 2, 4, NONE), NONE);
        due("link: ahead", x.view(0, 2, 3, NONE), 1);
        due("link to no object", x.link(0, 2, 3), BAD);
        due("link to -1", x.link(0, 2, -1), BAD);
        due("link to -2", x.link(0, 2, -2), BAD);
        due("link of a number", x.link(0, 1, 1), BAD);
        due("link of a row", x.link(2, 1, 1), BAD);
        due("link of no field", x.link(0, 4, 1), BAD);
        due("link of no object", x.link(3, 2, 1), BAD);
        due("link: height", x.told(1), 4);
    }

    // promise 5
    private static void row() {
        LazyState x = with(1, 2);
        due("row none as at first", x.row(0, 5, NONE), 0);
        due("row of 0", x.row(0, 5, 0), 1);
        due("row of 0 again", x.row(0, 5, 0), 1);
        due("row of 8", x.row(1, 2, 8), 2);
        due("row of 8 again", x.row(1, 2, 8), 2);
        due("row of 3", x.row(1, 1, 3), 3);
        due("row: the other one stays", x.view(1, 2, 3, NONE), 8);
        due("row of 9", x.row(1, 1, 9), BAD);
        due("row of -1", x.row(1, 1, -1), BAD);
        due("row of -2", x.row(1, 1, -2), BAD);
        due("row of a number", x.row(1, 0, 1), BAD);
        due("row of a link", x.row(1, 3, 1), BAD);
        due("row of no field", x.row(1, 5, 1), BAD);
        due("row of no object", x.row(2, 1, 1), BAD);
        due("row none", x.row(1, 2, NONE), 4);
        due("row: now", x.view(1, 2, 4, NONE), NONE);

        LazyState y = with(2);
        y.row(0, 1, 2);
        then(y, SET, 1, 1);
        then(y, LAY, 0, 1, 1, 0);
        y.call(0, 0, 9);
        due("row: laid", y.view(0, 1, 2, 1), 9);
        due("row: as many, but not all 0", y.row(0, 1, 2), 3);
        due("row: all 0", y.view(0, 1, 3, 1), 0);
        due("row: as it was", y.view(0, 1, 2, 1), 9);
        y.clear(0);
        then(y, LAY, 0, 1, 1, 0);
        y.call(0, 0, 9);
        due("row: ITEM 0 alone is not 0", y.row(0, 1, 2), 5);
    }

    // promise 6
    private static void act() {
        LazyState x = new LazyState();
        for (int k = 0; k < 32; k++) {
            due("act " + k, x.act(2, THROW, -9, Long.MIN_VALUE, 99, -1, 77), k);
        }
        due("act 32", x.act(2, THROW, 0, 0, 0, 0, 0), FULL);
        due("act 32 that is bad", x.act(2, GIVE, 4, 0, 0, 0, 0), BAD);
        due("act of another behaviour", x.act(5, THROW, 0, 0, 0, 0, 0), 0);
        due("act of behaviour 6", x.act(6, THROW, 0, 0, 0, 0, 0), BAD);
        due("act of behaviour -1", x.act(-1, THROW, 0, 0, 0, 0, 0), BAD);
        due("act of kind 18", x.act(0, 18, 0, 0, 0, 0, 0), BAD);
        due("act of kind -1", x.act(0, -1, 0, 0, 0, 0, 0), BAD);
        due("act: bad ones are not there", x.clear(0), 0);
    }

    /** The most that each number of each kind may be; -1: any. */
    private static final int[][] MOST = {
        {3, -1, -1, -1, -1}, {3, 3, 3, -1, -1}, {3, 3, 3, -1, -1}, {3, 3, 3, -1, -1}, {3, 3, 7, -1, -1},
        {3, 7, 3, -1, -1}, {3, 3, 7, -1, -1}, {3, 7, 3, -1, -1}, {3, 3, 7, 3, -1}, {3, 7, 3, 3, -1},
        {3, 7, 3, -1, -1}, {3, 7, 3, 7, 3}, {3, 3, 3, -1, -1}, {3, 3, 3, -1, -1}, {-1, 32, -1, -1, -1},
        {3, 32, -1, -1, -1}, {3, -1, -1, -1, -1}, {-1, -1, -1, -1, -1},
    };

    private static void actBounds() {
        for (int kind = 0; kind < MOST.length; kind++) {
            for (int which = 0; which < 5; which++) {
                int most = MOST[kind][which];
                checkBound(kind, which, -1, most == -1);
                checkBound(kind, which, Integer.MIN_VALUE, most == -1);
                checkBound(kind, which, most + 1, most == -1);
                checkBound(kind, which, Math.max(most, 0), true);
            }
        }
        LazyState x = new LazyState();
        due("act: b has 64 bits", x.act(0, ADD, 0, 1L << 32, 0, 0, 0), BAD);
        due("act: b of GO has 64 bits", x.act(0, GO, 0, 1L << 32, 0, 0, 0), BAD);
        due("act: b of SET has 64 bits", x.act(0, SET, 0, Long.MIN_VALUE, 0, 0, 0), 0);
    }

    private static void checkBound(int kind, int which, int n, boolean fine) {
        int[] m = new int[5];
        m[which] = n;
        String what = "act of kind " + kind + " with number " + which + " = " + n;
        due(what, new LazyState().act(0, kind, m[0], m[1], m[2], m[3], m[4]), fine ? 0 : BAD);
    }

    // promise 7
    private static void clear() {
        LazyState x = with(0);
        then(x, SET, 0, 5);
        then(x, GIVE, 0);
        x.act(1, THROW, 0, 0, 0, 0, 0);
        due("clear", x.clear(0), 2);
        due("clear again", x.clear(0), 0);
        due("clear: without acts", x.call(0, 0, 3), 0);
        due("clear: gave", x.gave(), 0);
        due("clear: other behaviour", x.call(0, 1, 3), OWN);
        due("clear: act 0 again", x.act(0, GIVE, 0, 0, 0, 0, 0), 0);
        due("clear: the new act alone", x.call(0, 0, 3), 0);
        due("clear: gave", x.gave(), 3);
        due("clear(6)", x.clear(6), BAD);
        due("clear(-1)", x.clear(-1), BAD);
    }

    // promise 8
    private static void call() {
        LazyState x = with(0, 0);
        gives("VALUE 0 is told", x, Long.MAX_VALUE, 0, Long.MAX_VALUE);
        gives("VALUE 3 is 0", x, 7, 3, 0);
        then(x, SAME, 1, 1, 2);
        gives("HANDLES 1, 2 are NONE", x, 7, 1, 1);
        then(x, SAME, 1, 0, 3);
        gives("HANDLE 0 is not", x, 7, 1, 0);
        then(x, PUT, 0, 0, 0);
        due("call of OBJECT 1", x.call(1, 0, 8), 0);
        due("call: OBJECT 1 changed", x.view(1, 0, 1, NONE), 8);
        due("call: OBJECT 0 did not", x.view(0, 0, 1, NONE), 0);
        due("call: one HEIGHT more", x.told(1), 1);
        due("call: the same again", x.call(1, 0, 8), 0);
        due("call: HEIGHT stays", x.told(1), 1);
        x.clear(0);
        gives("VALUES and HANDLES are new each time", x, 0, 1, 0);
    }

    private static void callRefusals() {
        LazyState x = with(0);
        due("call of object 1", x.call(1, 0, 0), BAD);
        due("call of object -1", x.call(-1, 0, 0), BAD);
        due("call of object NONE", x.call(NONE, 0, 0), BAD);
        due("call of behaviour 6", x.call(0, 6, 0), BAD);
        due("call of behaviour -1", x.call(0, -1, 0), BAD);
        due("call: none was made", x.told(8), 0);
    }

    private static void arithmetic() {
        LazyState x = with(0);
        then(x, SET, 1, Long.MIN_VALUE);
        gives("SET", x, 0, 1, Long.MIN_VALUE);
        then(x, SET, 1, 1);
        then(x, ADD, 2, 0, 1);
        gives("ADD goes round", x, Long.MAX_VALUE, 2, Long.MIN_VALUE);
        then(x, SET, 1, 1);
        then(x, LESS, 2, 0, 1);
        gives("LESS goes round", x, Long.MIN_VALUE, 2, Long.MAX_VALUE);
        then(x, SET, 1, 3);
        then(x, LESS, 0, 1, 0);
        gives("LESS", x, 10, 0, -7);
        then(x, SET, 1, 2);
        then(x, OVER, 2, 0, 1);
        gives("OVER is cut off", x, -7, 2, -3);
        then(x, SET, 1, -1);
        then(x, OVER, 2, 0, 1);
        gives("OVER goes round", x, Long.MIN_VALUE, 2, Long.MIN_VALUE);
        then(x, OVER, 2, 0, 1);
        throwsAt("OVER by 0", x, 5, ZERO, 0);
    }

    private static void jumps() {
        LazyState x = with(0);
        then(x, GO, 0, 2);
        then(x, THROW);
        gives("GO", x, 6, 0, 6);
        then(x, IF, 0, 2);
        then(x, SET, 0, 50);
        gives("IF above 0", x, 1, 0, 1);
        then(x, IF, 0, 2);
        then(x, SET, 0, 50);
        gives("IF 0", x, 0, 0, 50);
        then(x, IF, 0, 2);
        then(x, SET, 0, 50);
        gives("IF below 0", x, -1, 0, 50);
        then(x, GO, 0, 32);
        then(x, THROW);
        due("GO to the end", x.call(0, 0, 9), 0);
        due("GO to the end: gave", x.gave(), 0);
        due("GO to the end: acts", x.told(7), 1);
        x.clear(0);
        then(x, GIVE, 0);
        then(x, THROW);
        due("GIVE ends", x.call(0, 0, 9), 0);
        due("GIVE ends: gave", x.gave(), 9);
        due("GIVE ends: acts", x.told(7), 1);
        x.clear(0);
        then(x, SET, 1, 1);
        then(x, THROW);
        throwsAt("THROW", x, 9, OWN, 1);
        due("THROW counts", x.told(7), 2);
    }

    private static void steps() {
        LazyState x = with(0);
        // a loop of four ACTS for each round, and four ACTS around it
        then(x, SET, 1, 1);
        then(x, SET, 3, 3);
        then(x, LESS, 0, 0, 1);
        then(x, ADD, 2, 2, 1);
        then(x, ADD, 3, 3, 1);
        then(x, IF, 0, 2);
        then(x, SET, 3, 4);
        due("199 ACTS", x.call(0, 0, 49), 0);
        due("199 ACTS: told", x.told(7), 199);
        then(x, GIVE, 2);
        due("200 ACTS", x.call(0, 0, 49), 0);
        due("200 ACTS: told", x.told(7), 200);
        due("200 ACTS: gave", x.gave(), 49);
        due("201 ACTS", x.call(0, 0, 50), STEPS);
        due("201 ACTS: told", x.told(7), 200);
        due("201 ACTS: where", x.where(), 4);
        x.clear(0);
        then(x, SET, 1, 1);
        then(x, SET, 3, 3);
        then(x, LESS, 0, 0, 1);
        then(x, ADD, 2, 2, 1);
        then(x, ADD, 3, 3, 1);
        then(x, IF, 0, 2);
        then(x, SET, 3, 4);
        then(x, SET, 3, 5);
        due("200 ACTS and the end", x.call(0, 0, 49), 0);
        then(x, GIVE, 2);
        due("GIVE is the 201st", x.call(0, 0, 49), STEPS);
        due("GIVE is the 201st: where", x.where(), 8);
        due("GIVE is the 201st: gave", x.gave(), 0);
    }

    /** NULL, INDEX, CAST of each kind that asks a HANDLE for a FIELD. */
    private static void handlesWithFields() {
        long[][] acts = {
            {GET, 1, -1, -2}, {PUT, -1, -2, 1}, {LINK, 1, -1, -2}, {TIE, -1, -2, 1},
            {ITEM, 1, -1, -2, 0}, {LAY, -1, -2, 1, 0}, {ROW, -1, -2, 1},
            {SHIFT, -1, -2, 0, 1, 1}, {SHIFT, 0, 1, -1, -2, 1},
        };
        int[] other = {1, 1, 0, 0, 0, 0, 0, 0, 0};
        for (int k = 0; k < acts.length; k++) {
            String what = "act " + k;
            refuses(what + " of NONE", acts[k], 2, 0, NULL, 0);
            refuses(what + " of NONE and no field", acts[k], 2, 7, NULL, 0);
            refuses(what + " of no field", acts[k], 0, 7, INDEX, 1);
            refuses(what + " of field 4", acts[k], 0, 4, INDEX, 1);
            refuses(what + " of another sort", acts[k], 0, other[k], CAST, 1);
        }
    }

    private static void refuses(String what, long[] act, int handle, int field, int want, int loaded) {
        LazyState x = with(2);
        x.row(0, 1, 2);
        long[] n = new long[act.length - 1];
        boolean other = act[0] == SHIFT && act[1] != -1;
        for (int k = 0; k < n.length; k++) {
            n[k] = act[k + 1] == -1 ? handle : act[k + 1] == -2 ? field : act[k + 1];
        }
        then(x, (int) act[0], n);
        throwsAt(what, x, 0, want, 0);
        due(what + ": loaded", x.loaded(0), other ? 1 : loaded);
        due(what + ": touched", x.told(3), other ? 1 : 0);
        due(what + ": acts", x.told(7), 1);
        due(what + ": height", x.told(1), 1);
    }

    private static void numbersAndLinks() {
        LazyState x = with(1, 0);
        x.number(0, 2, -5);
        x.link(0, 3, 1);
        then(x, GET, 3, 0, 2);
        gives("GET", x, 0, 3, -5);
        then(x, LINK, 2, 0, 3);
        then(x, PUT, 2, 1, 0);
        then(x, TIE, 2, 2, 0);
        then(x, LINK, 0, 0, 4);
        then(x, SAME, 1, 0, 3);
        gives("LINK, PUT, TIE", x, 17, 1, 1);
        due("PUT", x.view(1, 1, 3, NONE), 17);
        due("TIE", x.view(1, 2, 3, NONE), 0);
        then(x, TIE, 0, 3, 1);
        due("TIE to NONE", x.call(0, 0, 0), 0);
        due("TIE to NONE: link", x.view(0, 3, 4, NONE), NONE);
    }

    private static void items() {
        LazyState x = with(2);
        x.row(0, 2, 3);
        then(x, SET, 1, 2);
        then(x, LAY, 0, 2, 1, 0);
        then(x, ITEM, 3, 0, 2, 1);
        gives("LAY takes the lowest 32 bits", x, 0x7ff_8000_0001L, 3, (int) 0x8000_0001);
        due("LAY: the item", x.view(0, 2, 2, 2), (int) 0x8000_0001);
        due("LAY: the one ahead", x.view(0, 2, 2, 1), 0);
        then(x, ITEM, 3, 0, 2, 0);
        throwsAt("ITEM -1", x, -1, INDEX, 0);
        then(x, ITEM, 3, 0, 2, 0);
        throwsAt("ITEM 3", x, 3, INDEX, 0);
        then(x, ITEM, 3, 0, 2, 0);
        throwsAt("ITEM is of 64 bits", x, 1L << 32, INDEX, 0);
        then(x, LAY, 0, 2, 0, 1);
        throwsAt("LAY -1", x, -1, INDEX, 0);
        then(x, LAY, 0, 2, 0, 1);
        throwsAt("LAY 3", x, 3, INDEX, 0);
        then(x, LAY, 0, 2, 0, 1);
        throwsAt("LAY is of 64 bits", x, 1L << 32, INDEX, 0);
        then(x, ITEM, 3, 0, 1, 0);
        throwsAt("ITEM of NONE", x, -1, NULL, 0);
        then(x, LAY, 0, 1, 0, 1);
        throwsAt("LAY of NONE", x, 0, NULL, 0);
        x.row(0, 1, 0);
        then(x, ITEM, 3, 0, 1, 0);
        throwsAt("ITEM of an empty ROW", x, 0, INDEX, 0);
    }

    /** Two full ROWS of one OBJECT keep apart. */
    private static void fullRows() {
        LazyState x = with(2);
        x.row(0, 1, 8);
        x.row(0, 2, 8);
        for (int f = 1; f <= 2; f++) {
            for (int i = 0; i < 8; i++) {
                then(x, SET, 1, i);
                then(x, LAY, 0, f, 1, 0);
                x.call(0, 0, 10 * f + i);
                x.clear(0);
            }
        }
        for (int i = 0; i < 8; i++) {
            due("full rows: ITEM " + i + " of the first one", x.view(0, 1, 18, i), 10 + i);
            due("full rows: ITEM " + i + " of the other one", x.view(0, 2, 18, i), 20 + i);
        }
        then(x, SHIFT, 0, 1, 0, 2, 0);
        x.call(0, 0, 8);
        for (int i = 0; i < 8; i++) {
            due("full rows: ITEM " + i + " shifted", x.view(0, 2, 19, i), 10 + i);
        }
        x.row(0, 1, 8);
        due("full rows: the other one stays", x.view(0, 2, 20, 0), 10);
    }

    private static void newRows() {
        LazyState x = with(1);
        then(x, ROW, 0, 5, 0);
        due("ROW of 8", x.call(0, 0, 8), 0);
        due("ROW of 8: items", x.view(0, 5, 1, NONE), 8);
        due("ROW of 9", x.call(0, 0, 9), ROOM);
        due("ROW of -1", x.call(0, 0, -1), SIZE);
        due("ROW of 2 to the 32nd", x.call(0, 0, 1L << 32), ROOM);
        due("ROW of the lowest", x.call(0, 0, Long.MIN_VALUE), SIZE);
        due("ROW: stays", x.view(0, 5, 1, NONE), 8);
        due("ROW of 0", x.call(0, 0, 0), 0);
        due("ROW of 0: items", x.view(0, 5, 2, NONE), 0);
        x.clear(0);
        then(x, ROW, 0, 5, 0);
        then(x, LAY, 0, 5, 1, 0);
        then(x, ROW, 0, 5, 0);
        then(x, ITEM, 2, 0, 5, 1);
        gives("ROW is all 0", x, 2, 2, 0);
    }

    private static void shift() {
        LazyState x = with(2);
        x.row(0, 1, 3);
        x.row(0, 2, 2);
        then(x, SET, 1, 0);
        then(x, LAY, 0, 1, 1, 0);
        then(x, SET, 1, 1);
        then(x, ADD, 0, 0, 1);
        then(x, LAY, 0, 1, 1, 0);
        then(x, LAY, 0, 2, 1, 0);
        then(x, SET, 1, 1);
        then(x, SHIFT, 0, 1, 0, 2, 1);
        due("SHIFT of 1", x.call(0, 0, 70), 0);
        due("SHIFT: first", x.view(0, 2, 3, 0), 70);
        due("SHIFT: second stays", x.view(0, 2, 3, 1), 71);
        x.clear(0);
        then(x, SHIFT, 0, 1, 0, 2, 0);
        then(x, ITEM, 3, 0, 2, 2);
        gives("SHIFT of 2, all of the other one", x, 2, 3, 70);
        due("SHIFT changes nothing new", x.told(1), 3);
        due("SHIFT is a change all the same", x.told(4), 1);
        then(x, SHIFT, 0, 1, 0, 2, 0);
        due("SHIFT of 0", x.call(0, 0, 0), 0);
        due("SHIFT of 0 is a change all the same", x.told(4), 1);
        x.clear(0);
        then(x, SHIFT, 0, 1, 0, 1, 0);
        due("SHIFT to itself", x.call(0, 0, 3), 0);
        touches("SHIFT to itself", x, 1, 0, 1, 1);
    }

    private static void shiftThrows() {
        LazyState x = with(2, 1, 2);
        x.row(0, 1, 3);
        x.row(0, 2, 2);
        x.link(0, 3, 1);
        then(x, SHIFT, 0, 1, 0, 2, 0);
        throwsAt("SHIFT of more than the other one has", x, 3, INDEX, 0);
        then(x, SHIFT, 0, 2, 0, 1, 0);
        throwsAt("SHIFT of more than the first one has", x, 3, INDEX, 0);
        then(x, SHIFT, 0, 1, 0, 2, 0);
        throwsAt("SHIFT of -1", x, -1, INDEX, 0);
        then(x, SHIFT, 0, 1, 0, 2, 0);
        throwsAt("SHIFT of 2 to the 32nd", x, 1L << 32, INDEX, 0);
        then(x, LINK, 1, 0, 3);
        then(x, SHIFT, 0, 1, 1, 5, 0);
        throwsAt("SHIFT to a ROW that is NONE", x, 99, NULL, 1);
        touches("SHIFT to a ROW that is NONE", x, 3, 0, 1, 0, 13, 0);
        then(x, LINK, 1, 0, 3);
        then(x, SHIFT, 1, 5, 0, 1, 0);
        throwsAt("SHIFT from a ROW that is NONE", x, -1, NULL, 1);
        touches("SHIFT from a ROW that is NONE", x, 3, 0, 13, 0, 1, 0);
        then(x, SHIFT, 0, 0, 1, 7, 0);
        throwsAt("SHIFT: the first HANDLE is first", x, 0, CAST, 0);
        due("SHIFT: the other one is not loaded", x.told(6), 1);
        then(x, LINK, 1, 0, 3);
        then(x, SHIFT, 1, 5, 0, 0, 0);
        throwsAt("SHIFT: the other HANDLE is ahead of the ROWS", x, -1, CAST, 1);
        touches("SHIFT: only the first one is read", x, 3, 0, 13, 0);
    }

    private static void same() {
        LazyState x = with(0, 0);
        x.link(0, 2, 1);
        then(x, LINK, 1, 0, 2);
        then(x, SAME, 1, 0, 1);
        gives("SAME of two", x, 0, 1, 0);
        then(x, LINK, 1, 0, 2);
        then(x, LINK, 2, 0, 2);
        then(x, SAME, 1, 1, 2);
        gives("SAME of one", x, 0, 1, 1);
        due("SAME does not load", x.loaded(1), 0);
        then(x, SAME, 1, 0, 3);
        gives("SAME of one and NONE", x, 0, 1, 0);
        due("SAME touches nothing", x.told(3), 0);
    }

    private static void likeWith(LazyState x, String what, int want) {
        then(x, LINK, 1, 0, 4);
        then(x, LINK, 2, 0, 3);
        then(x, LIKE, 1, 1, 2);
        gives(what, x, 0, 1, want);
    }

    private static void like() {
        LazyState x = with(1, 0, 0, 2);
        likeWith(x, "LIKE of NONE and NONE", 1);
        x.link(0, 4, 1);
        likeWith(x, "LIKE of an OBJECT and NONE", 0);
        due("LIKE of NONE does not load", x.told(6), 1);
        x.link(0, 3, 3);
        likeWith(x, "LIKE of two CLASSES", 0);
        due("LIKE of two CLASSES does not load", x.told(6), 1);
        x.link(0, 3, 1);
        likeWith(x, "LIKE of one OBJECT", 1);
        due("LIKE of one OBJECT does not load", x.told(6), 1);
        x.link(0, 3, 2);
        likeWith(x, "LIKE of two as new", 1);
        due("LIKE loads both", x.told(6), 3);
        x.number(1, 1, 5);
        likeWith(x, "LIKE: NUMBERS", 0);
        x.number(2, 1, 5);
        likeWith(x, "LIKE: NUMBERS alike", 1);
        x.link(2, 2, 2);
        likeWith(x, "LIKE: LINKS", 0);
        x.link(1, 2, 2);
        likeWith(x, "LIKE: LINKS alike", 1);
        x.link(1, 2, 1);
        likeWith(x, "LIKE: LINKS to OBJECTS that are like", 0);
    }

    private static void likeRows() {
        LazyState x = with(1, 2, 2);
        x.link(0, 4, 1);
        x.link(0, 3, 2);
        x.row(1, 2, 0);
        likeWith(x, "LIKE: ROW and NONE", 0);
        x.row(2, 2, 1);
        likeWith(x, "LIKE: ROWS of 0 and 1", 0);
        x.row(1, 2, 1);
        likeWith(x, "LIKE: ROWS of 1", 1);
        x.act(1, LAY, 0, 2, 1, 0, 0);
        x.call(1, 1, -6);
        likeWith(x, "LIKE: ITEMS", 0);
        x.call(2, 1, -6);
        likeWith(x, "LIKE: ITEMS alike", 1);
        x.row(2, 1, NONE);
        x.link(2, 3, 0);
        likeWith(x, "LIKE: the last FIELD", 0);
    }

    private static void ownChanges() {
        LazyState x = with(2);
        then(x, PUT, 0, 0, 0);
        then(x, GET, 1, 0, 0);
        gives("own NUMBER", x, 31, 1, 31);
        then(x, TIE, 0, 3, 0);
        then(x, LINK, 1, 0, 3);
        then(x, SAME, 1, 1, 0);
        gives("own LINK", x, 31, 1, 1);
        then(x, ROW, 0, 1, 0);
        then(x, SET, 1, 2);
        then(x, LAY, 0, 1, 1, 0);
        then(x, ITEM, 3, 0, 1, 1);
        gives("own ROW", x, 3, 3, 3);
    }

    private static void throwsLeaveNothing() {
        LazyState x = with(2);
        x.row(0, 2, 1);
        then(x, PUT, 0, 0, 0);
        then(x, ROW, 0, 1, 0);
        then(x, TIE, 0, 3, 0);
        then(x, LAY, 0, 2, 2, 0);
        then(x, THROW);
        throwsAt("throw", x, 4, OWN, 4);
        due("throw: height", x.told(1), 1);
        due("throw: number", x.view(0, 0, 1, NONE), 0);
        due("throw: row", x.view(0, 1, 1, NONE), NONE);
        due("throw: item", x.view(0, 2, 1, 0), 0);
        due("throw: link", x.view(0, 3, 1, NONE), NONE);
        writes("throw", x);
        due("throw: changed", x.told(4), 4);
        due("throw: times", x.times(0), 0);
        due("throw: cached", x.cached(0), 1);
        then(x, GET, 1, 0, 0);
        gives("throw: the next CALL sees nothing", x, 9, 1, 0);
    }

    // promise 9
    private static void gave() {
        LazyState x = with(0);
        gives("gave", x, -8, 0, -8);
        x.number(0, 0, 3);
        x.object(1);
        due("gave stays", x.gave(), -8);
        then(x, GIVE, 1);
        due("gave 0", x.call(0, 0, 5), 0);
        due("gave 0", x.gave(), 0);
        x.clear(0);
        gives("gave again", x, 77, 0, 77);
        then(x, THROW);
        due("gave: all() keeps nothing", x.all(0, 0, 6), 1);
        due("gave: still", x.gave(), 77);
        due("gave: throws", x.call(0, 0, 5), OWN);
        due("gave: 0 behind a throw", x.gave(), 0);
    }

    // promise 10
    private static void where() {
        LazyState x = with(0);
        then(x, SET, 1, 2);
        then(x, GO, 0, 3);
        then(x, GIVE, 0);
        then(x, OVER, 0, 0, 2);
        due("where: throws", x.call(0, 0, 0), ZERO);
        due("where", x.where(), 3);
        due("where: refused", x.call(9, 0, 0), BAD);
        due("where: still", x.where(), 3);
        due("where: gives", x.call(0, 1, 0), 0);
        due("where: NONE", x.where(), NONE);
    }

    // promise 11
    private static void touched() {
        LazyState x = with(2, 1);
        x.row(0, 1, 2);
        x.row(0, 2, 2);
        then(x, PUT, 0, 0, 0);
        then(x, GET, 1, 0, 0);
        then(x, TIE, 0, 3, 0);
        then(x, LINK, 1, 0, 3);
        then(x, ITEM, 1, 0, 2, 2);
        then(x, LAY, 0, 2, 2, 0);
        then(x, ROW, 0, 1, 2);
        then(x, SHIFT, 0, 2, 0, 1, 2);
        due("touched: call", x.call(0, 0, 4), 0);
        touches("touched", x, 0, 1, 0, 0, 3, 1, 3, 0, 2, 0, 2, 1, 1, 1, 1, 0);
        due("touched: changed", x.told(4), 4);
        due("touched(-1, 0)", x.touched(-1, 0), BAD);
        due("touched(0, 2)", x.touched(0, 2), BAD);
        due("touched(0, -1)", x.touched(0, -1), BAD);
        due("touched(99, 2)", x.touched(99, 2), BAD);
        due("touched(MAX, 1)", x.touched(Integer.MAX_VALUE, 1), NONE);
        x.clear(0);
        due("touched: nothing", x.call(0, 0, 4), 0);
        due("no ACTS done", x.told(7), 0);
        touches("touched: nothing", x);
    }

    private static void touchedOnce() {
        LazyState x = with(0, 0);
        x.link(0, 2, 1);
        then(x, LINK, 1, 0, 2);
        then(x, GET, 1, 1, 1);
        then(x, PUT, 0, 0, 1);
        then(x, GET, 1, 1, 1);
        then(x, PUT, 0, 0, 1);
        then(x, PUT, 1, 0, 1);
        then(x, GET, 1, 0, 0);
        then(x, LINK, 1, 0, 2);
        due("touched once: call", x.call(0, 0, 0), 0);
        touches("touched once", x, 2, 0, 9, 0, 0, 1, 8, 1, 0, 0);
        due("changed as it was", x.told(1), 1);
        writes("changed as it was", x);
    }

    private static void touchedByThrows() {
        LazyState x = with(2);
        then(x, ITEM, 1, 0, 1, 0);
        throwsAt("read of a ROW that is NONE", x, 0, NULL, 0);
        touches("read of a ROW that is NONE", x, 1, 0);
        then(x, LAY, 0, 2, 0, 1);
        throwsAt("LAY of a ROW that is NONE", x, 0, NULL, 0);
        touches("LAY of a ROW that is NONE", x, 2, 0);
        then(x, ROW, 0, 1, 0);
        throwsAt("ROW of 9", x, 9, ROOM, 0);
        touches("ROW of 9", x);
        x.row(0, 1, 1);
        x.row(0, 2, 1);
        then(x, LAY, 0, 1, 0, 0);
        throwsAt("LAY with no such ITEM", x, 1, INDEX, 0);
        touches("LAY with no such ITEM", x, 1, 0);
        then(x, SHIFT, 0, 1, 0, 2, 0);
        throwsAt("SHIFT with no such ITEM", x, 2, INDEX, 0);
        touches("SHIFT with no such ITEM", x, 1, 0, 2, 0);
        then(x, GET, 0, 0, 1);
        throwsAt("GET of another sort", x, 2, CAST, 0);
        touches("GET of another sort", x);
    }

    private static void touchedByLike() {
        LazyState x = with(2, 2);
        x.link(0, 3, 1);
        then(x, LINK, 1, 0, 3);
        then(x, LIKE, 1, 1, 0);
        due("LIKE: call", x.call(0, 0, 0), 0);
        touches("LIKE of all FIELDS", x, 3, 0, 8, 0, 0, 0, 9, 0, 1, 0, 10, 0, 2, 0, 11, 0);
        x.row(1, 1, 4);
        due("LIKE: call", x.call(0, 0, 0), 0);
        touches("LIKE up to FIELD 1", x, 3, 0, 8, 0, 0, 0, 9, 0, 1, 0);
    }

    // promise 12
    private static void written() {
        LazyState x = with(1, 0);
        x.link(0, 3, 1);
        x.number(0, 0, 5);
        then(x, LINK, 1, 0, 3);
        then(x, PUT, 1, 1, 0);
        then(x, PUT, 0, 2, 0);
        then(x, PUT, 0, 0, 0);
        then(x, ROW, 0, 5, 1);
        then(x, PUT, 1, 1, 0);
        then(x, PUT, 0, 1, 0);
        then(x, PUT, 0, 1, 1);
        due("written: call", x.call(0, 0, 5), 0);
        writes("LEAVES in order, once, none as it was", x, 2, 5, 9);
        due("written: changed", x.told(4), 5);
        due("written(-1)", x.written(-1), BAD);
        due("written(MAX)", x.written(Integer.MAX_VALUE), NONE);
        due("written: one HEIGHT", x.told(1), 3);
        due("written: again", x.call(0, 0, 5), 0);
        writes("written: nothing again", x);
        due("written: HEIGHT stays", x.told(1), 3);
        x.number(0, 2, 1);
        x.clear(0);
        due("number() is no CALL", x.call(0, 0, 0), 0);
        writes("number() is no CALL", x);

        LazyState y = with(2);
        y.row(0, 1, 2);
        then(y, ROW, 0, 1, 0);
        y.call(0, 0, 2);
        writes("a ROW that is like it was", y);
        y.call(0, 0, 3);
        writes("a ROW of more ITEMS", y, 1);
        then(y, SET, 1, 1);
        then(y, LAY, 0, 1, 1, 0);
        y.call(0, 0, 3);
        writes("an ITEM", y, 1);
        y.call(0, 0, 3);
        writes("a ROW with the same ITEM", y);
    }

    // promise 13
    private static void loaded() {
        LazyState x = with(0, 0, 0);
        x.link(0, 2, 1);
        due("loaded: no CALL yet", x.loaded(0), 0);
        due("loaded: call", x.call(0, 0, 0), 0);
        due("the OBJECT called is not loaded by that", x.loaded(0), 0);
        then(x, LINK, 1, 0, 2);
        then(x, LINK, 2, 0, 2);
        due("loaded: call", x.call(0, 0, 0), 0);
        due("loaded(0)", x.loaded(0), 1);
        due("a stand-in is not loaded", x.loaded(1), 0);
        then(x, PUT, 2, 7, 0);
        due("loaded: call", x.call(0, 0, 0), INDEX);
        due("loaded by a FIELD that there is not", x.loaded(1), 1);
        due("loaded(2)", x.loaded(2), 0);
        due("loaded: told", x.told(6), 2);
        due("loaded(3)", x.loaded(3), BAD);
        due("loaded(-1)", x.loaded(-1), BAD);
        x.object(1);
        due("loaded: a new OBJECT", x.loaded(3), 0);
        x.number(0, 0, 1);
        due("loaded: still", x.loaded(0), 1);
        x.hint(2);
        due("hint() does not load", x.loaded(2), 0);
    }

    // promise 14
    private static void cached() {
        LazyState x = with(0, 0);
        due("cached at first", x.cached(0), 0);
        then(x, GET, 1, 0, 0);
        x.call(0, 0, 0);
        due("cached by a CALL", x.cached(0), 1);
        due("fetches", x.told(2), 1);
        x.call(0, 0, 0);
        due("no fetch", x.told(2), 1);
        due("loaded all the same", x.loaded(0), 1);
        x.number(1, 0, 0);
        due("cached: HEIGHT stays", x.cached(0), 1);
        x.number(1, 0, 2);
        due("cached: number() changes HEIGHT", x.cached(0), 0);
        x.call(0, 0, 0);
        due("a fetch again", x.told(2), 2);
        x.link(1, 2, 1);
        due("cached: link() changes HEIGHT", x.cached(0), 0);
        x.call(1, 0, 0);
        due("cached(1)", x.cached(1), 1);
        then(x, PUT, 0, 0, 0);
        x.call(0, 0, 7);
        due("cached: a CALL changes HEIGHT", x.cached(0), 0);
        due("cached: all of them", x.cached(1), 0);
        due("its fetch counts", x.told(2), 4);
        then(x, THROW);
        x.call(0, 0, 8);
        due("cached by a CALL that throws", x.cached(0), 1);
        due("its fetch counts, too", x.told(2), 5);
        due("cached(2)", x.cached(2), BAD);
        due("cached(-1)", x.cached(-1), BAD);

        LazyState y = with(1);
        y.hint(0);
        y.row(0, 5, 1);
        due("cached: row() changes HEIGHT", y.cached(0), 0);
    }

    // promise 15
    private static void hint() {
        LazyState x = with(0, 0);
        due("hint(1)", x.hint(1), 1);
        due("hint(1) again", x.hint(1), 0);
        due("hint: cached", x.cached(1), 1);
        due("hint: others", x.cached(0), 0);
        due("hint: fetches", x.told(2), 1);
        then(x, GET, 1, 0, 0);
        x.call(1, 0, 0);
        due("hint: the CALL does not fetch", x.told(2), 1);
        x.call(0, 0, 0);
        due("hint of what a CALL loaded", x.hint(0), 0);
        x.number(0, 0, 1);
        due("hint at another HEIGHT", x.hint(1), 1);
        due("hint(2)", x.hint(2), BAD);
        due("hint(-1)", x.hint(-1), BAD);
        due("hint: fetches", x.told(2), 3);
    }

    // promise 16
    private static void times() {
        LazyState x = with(0, 2);
        then(x, PUT, 0, 0, 0);
        then(x, PUT, 0, 0, 0);
        x.call(0, 0, 1);
        x.call(0, 0, 1);
        x.call(0, 0, 2);
        x.call(1, 0, 2);
        due("times(0)", x.times(0), 2);
        due("times(8)", x.times(8), 1);
        due("times(1)", x.times(1), 0);
        x.number(0, 0, 9);
        due("number() is no CALL", x.times(0), 2);
        due("times(3): no such FIELD", x.times(3), BAD);
        due("times(11)", x.times(11), 0);
        due("times(12): no such FIELD", x.times(12), BAD);
        due("times(16): no such OBJECT", x.times(16), BAD);
        due("times(-1)", x.times(-1), BAD);
        due("times(MIN)", x.times(Integer.MIN_VALUE), BAD);
        due("times(MAX)", x.times(Integer.MAX_VALUE), BAD);
    }

    // promise 17
    private static void all() {
        LazyState x = with(1, 1);
        x.link(0, 3, 1);
        x.act(1, GET, 1, 0, 0, 0, 0);
        x.act(1, GIVE, 0, 0, 0, 0, 0);
        x.call(1, 1, 6);
        then(x, LINK, 1, 0, 3);
        then(x, PUT, 1, 0, 0);
        then(x, IF, 0, 4);
        then(x, THROW);
        then(x, LIKE, 2, 0, 1);
        then(x, ROW, 0, 5, 2);
        due("all: gives", x.all(0, 0, 3), 1);
        due("all: throws", x.all(0, 0, 0), 1);
        due("all: no acts", x.all(0, 3, 0), 1);
        due("all keeps no HEIGHT", x.told(1), 1);
        due("all keeps no fetch", x.told(2), 1);
        due("all keeps no CALL", x.told(8), 1);
        due("all keeps nothing touched", x.touched(0, 0), 8);
        due("all keeps nothing loaded", x.loaded(0), 0);
        due("all keeps nothing cached", x.cached(0), 0);
        due("all keeps what is cached", x.cached(1), 1);
        due("all keeps no change", x.view(1, 0, 1, NONE), 0);
        due("all keeps what was given", x.gave(), 6);
        due("all keeps no throw", x.where(), NONE);
        due("all: then the CALL", x.call(0, 0, 3), 0);
        writes("all: then the CALL", x, 5, 8);
        due("all keeps what was written", x.all(1, 1, 3), 1);
        writes("all keeps what was written", x, 5, 8);
        due("all keeps no times", x.times(8), 1);
        due("all of object 2", x.all(2, 0, 0), BAD);
        due("all of object -1", x.all(-1, 0, 0), BAD);
        due("all of behaviour 6", x.all(0, 6, 0), BAD);
        due("all of behaviour -1", x.all(0, -1, 0), BAD);
    }

    // promise 18
    private static void view() {
        LazyState x = with(0);
        x.number(0, 0, 5);
        x.number(0, 1, 6);
        x.number(0, 0, 7);
        x.link(0, 2, 0);
        long[] first = {0, 5, 5, 7, 7};
        long[] second = {0, 0, 6, 6, 6};
        long[] third = {NONE, NONE, NONE, NONE, 0};
        for (int height = 0; height <= 4; height++) {
            due("view(0, 0, " + height + ")", x.view(0, 0, height, NONE), first[height]);
            due("view(0, 1, " + height + ")", x.view(0, 1, height, NONE), second[height]);
            due("view(0, 2, " + height + ")", x.view(0, 2, height, NONE), third[height]);
        }
        x.object(1);
        due("view of a later OBJECT: number", x.view(1, 0, 0, NONE), 0);
        due("view of a later OBJECT: link", x.view(1, 3, 0, NONE), NONE);
        due("view of a later OBJECT: row", x.view(1, 5, 2, NONE), NONE);
        due("view of a later OBJECT", x.status(), 0);
        x.number(1, 0, 3);
        due("ahead of its change", x.view(1, 0, 4, NONE), 0);
        due("at its change", x.view(1, 0, 5, NONE), 3);
        bad(x, 0, 0, 6, NONE);
        bad(x, 0, 0, -1, NONE);
        bad(x, 0, 3, 0, NONE);
        bad(x, 0, -1, 0, NONE);
        bad(x, 0, 8, 0, NONE);
        bad(x, 2, 0, 0, NONE);
        bad(x, -1, 0, 0, NONE);
        bad(x, 0, 0, 0, 0);
        bad(x, 0, 2, 4, 0);
        bad(x, 0, 0, 0, -1);
        bad(x, 0, 0, 0, -2);
    }

    private static void bad(LazyState x, int o, int f, int height, int i) {
        x.view(0, 0, 0, NONE);
        String what = "view(" + o + ", " + f + ", " + height + ", " + i + ")";
        due(what, x.view(o, f, height, i), BAD);
        due(what + ": status", x.status(), BAD);
    }

    private static void viewOfRows() {
        LazyState x = with(2);
        bad(x, 0, 1, 0, 0);
        x.row(0, 1, 2);
        x.row(0, 2, 8);
        then(x, LAY, 0, 1, 1, 0);
        then(x, SET, 1, 7);
        then(x, LAY, 0, 2, 1, 0);
        x.call(0, 0, -1);
        x.row(0, 1, NONE);
        due("view: an ITEM", x.view(0, 1, 3, 0), -1);
        due("view: -1 may be an ITEM", x.status(), 0);
        due("view: the next ITEM", x.view(0, 1, 3, 1), 0);
        due("view: the last ITEM", x.view(0, 2, 3, 7), -1);
        due("view: ahead of that", x.view(0, 1, 2, 0), 0);
        due("view: ITEMS", x.view(0, 1, 3, NONE), 2);
        due("view: NONE", x.view(0, 1, 4, NONE), NONE);
        due("view: NONE is told", x.status(), 0);
        bad(x, 0, 1, 4, 0);
        bad(x, 0, 1, 3, 2);
        bad(x, 0, 1, 3, -1);
        bad(x, 0, 1, 3, -2);
        bad(x, 0, 1, 3, -4);
        bad(x, 0, 2, 3, 8);
        bad(x, 0, 2, 3, Integer.MAX_VALUE);
        bad(x, 0, 2, 3, Integer.MIN_VALUE);
    }

    // promise 19
    private static void status() {
        LazyState x = with(0);
        due("status without a view", x.status(), BAD);
        x.number(0, 0, BAD);
        due("status: view", x.view(0, 0, 1, NONE), BAD);
        due("status of a number that is BAD", x.status(), 0);
        due("status again", x.status(), 0);
        due("status: view", x.view(0, 0, 2, NONE), BAD);
        due("status of a view that is BAD", x.status(), BAD);
        x.view(0, 0, 0, NONE);
        due("status is good again", x.status(), 0);
    }

    // promise 20
    private static void told() {
        LazyState x = with(0, 0, 1);
        x.link(0, 2, 1);
        then(x, LINK, 1, 0, 2);
        then(x, PUT, 1, 0, 0);
        then(x, PUT, 1, 1, 0);
        then(x, GET, 1, 1, 1);
        x.call(0, 0, 5);
        long[] first = {3, 2, 2, 4, 2, 2, 2, 4, 1};
        for (int what = 0; what < 9; what++) {
            due("told(" + what + ")", x.told(what), first[what]);
        }
        then(x, OVER, 0, 0, 2);
        x.call(0, 0, 6);
        x.all(0, 0, 6);
        x.call(9, 0, 6);
        long[] second = {3, 2, 4, 4, 2, 0, 2, 5, 2};
        for (int what = 0; what < 9; what++) {
            due("told(" + what + ") behind a throw", x.told(what), second[what]);
        }
        due("told(9)", x.told(9), BAD);
        due("told(-1)", x.told(-1), BAD);
    }

    private static void refusedCallsChangeNothing() {
        LazyState x = with(0);
        then(x, PUT, 0, 1, 0);
        then(x, GIVE, 0);
        x.call(0, 0, 12);
        x.hint(0);
        x.call(0, 6, 1);
        x.call(1, 0, 1);
        x.number(0, 2, 1);
        x.link(0, 2, 9);
        x.row(0, 0, 1);
        x.object(3);
        x.act(0, GIVE, 4, 0, 0, 0, 0);
        x.hint(1);
        due("refused: gave", x.gave(), 12);
        due("refused: cached", x.cached(0), 1);
        due("refused: objects", x.told(0), 1);
        due("refused: height", x.told(1), 1);
        due("refused: fetches", x.told(2), 2);
        due("refused: calls", x.told(8), 1);
        writes("refused", x, 1);
        due("refused: acts", x.clear(0), 2);
    }

    private static void fullHeight() {
        LazyState x = with(2);
        then(x, GIVE, 0);
        for (int height = 1; height < 40; height++) {
            due("height", x.number(0, 0, height), height);
        }
        due("call at 39", x.call(0, 0, 11), 0);
        due("height 40", x.number(0, 0, 40), 40);
        x.hint(0);
        due("number at 40", x.number(0, 0, 41), FULL);
        due("number at 40 as it is", x.number(0, 0, 40), 40);
        due("number at 40 that is bad", x.number(0, 1, 40), BAD);
        due("link at 40", x.link(0, 3, 0), FULL);
        due("link at 40 as it is", x.link(0, 3, NONE), 40);
        due("link at 40 that is bad", x.link(0, 3, 1), BAD);
        due("row at 40", x.row(0, 1, 0), FULL);
        due("row at 40 as it is", x.row(0, 1, NONE), 40);
        due("row at 40 that is bad", x.row(0, 1, 9), BAD);
        due("call at 40", x.call(0, 0, 0), FULL);
        due("call at 40 without acts", x.call(0, 1, 0), FULL);
        due("call at 40 that is bad", x.call(1, 0, 0), BAD);
        due("all at 40", x.all(0, 0, 0), FULL);
        due("all at 40 that is bad", x.all(0, 6, 0), BAD);
        due("full: calls", x.told(8), 1);
        due("full: gave", x.gave(), 11);
        due("full: cached", x.cached(0), 1);
        due("full: object", x.object(1), 1);
        due("full: height", x.told(1), 40);
        for (int height = 0; height <= 40; height++) {
            due("view at " + height, x.view(0, 0, height, NONE), height);
        }
        bad(x, 0, 0, 41, NONE);
    }

    /** A chain through all 24 OBJECTS, with both NUMBERS of each changed. */
    private static void manyWrites() {
        LazyState x = new LazyState();
        for (int o = 0; o < 24; o++) {
            x.object(0);
        }
        for (int o = 0; o < 23; o++) {
            x.link(o, 2, o + 1);
        }
        then(x, PUT, 0, 1, 0);
        then(x, PUT, 0, 0, 0);
        then(x, LINK, 0, 0, 2);
        then(x, SAME, 3, 0, 3);
        then(x, IF, 3, 32);
        then(x, GO, 0, 0);
        due("chain: all", x.all(0, 0, 100), 1);
        due("chain: call", x.call(0, 0, 100), 0);
        due("chain: acts", x.told(7), 24 * 6 - 1);
        due("chain: loaded", x.told(6), 24);
        due("chain: fetches", x.told(2), 24);
        due("chain: touched", x.told(3), 72);
        due("chain: changed", x.told(4), 48);
        due("chain: written", x.told(5), 48);
        due("chain: height", x.told(1), 24);
        for (int k = 0; k < 48; k++) {
            due("chain: written(" + k + ")", x.written(k), 8 * (k / 2) + k % 2);
        }
        due("chain: times", x.times(8 * 23 + 1), 1);
        due("chain: the last number", x.view(23, 1, 24, NONE), 100);
    }
}
