import java.io.IOException;
import java.lang.reflect.InvocationTargetException;
import java.lang.reflect.Method;
import java.lang.reflect.Modifier;
import java.nio.file.Files;
import java.nio.file.Path;
import java.util.ArrayList;
import java.util.Arrays;
import java.util.HashMap;
import java.util.List;
import java.util.Map;

/**
 * Each sentence of the document that names a boundary has a method of its own here, with the sentence at its head:
 * the value just inside, the one just outside, and (wherever an answer is BAD or FULL) that nothing has changed.
 * No object gets more than the 512 calls that the document speaks of.
 */
public final class LazyStateEdges {
    private static final int BAD = LazyState.BAD, FULL = LazyState.FULL, NONE = LazyState.NONE;
    private static final int NULL = 1, CAST = 2, INDEX = 3, SIZE = 4, ZERO = 5, OWN = 6, STEPS = 7, ROOM = 8;
    private static final long MIN = Long.MIN_VALUE, MAX = Long.MAX_VALUE, ROUND = 1L << 32;
    private static final int MOST_CALLS = 512;
    private static final String[] SORTS = {"NNL", "NNNLLR", "NRRL"};
    private static final Path DOCUMENT = Path.of("../shared/DOC.md");

    private static final List<String> quotes = new ArrayList<>();
    private static String sentence = "";
    private static int checksOfSentence = 1;
    private static int checks = 0;
    private static int wrong = 0;

    public static void main(String[] args) throws IOException {
        terms();
        kinds();
        throwing();
        keeping();
        promises();
        sentence("(the last one)");
        tellStaleQuotes();
        System.out.println(quotes.size() - 1 + " sentences, " + (checks - wrong) + " answers as due, " + wrong + " not");
        if (wrong != 0) {
            System.exit(1);
        }
    }

    private static void terms() {
        mostCalls();
        objectsAtMost();
        fieldsOfClass0();
        fieldsOfClass1();
        fieldsOfClass2();
        numberBits();
        linkOrNone();
        rowSizes();
        leafNumbers();
        heightAtMost();
        heightOnce();
        heightsForEver();
        firstContents();
        behavioursAndActs();
        handlesAndValues();
        handlesAndValuesAtFirst();
        numbersOfActs();
        names();
        refusals();
    }

    private static void kinds() {
        setAny();
        addAndLess();
        over();
        getNumber();
        putNumber();
        linkHandle();
        tieLink();
        itemOfRow();
        layLowestBits();
        newRow();
        shiftFirstItems();
        same();
        like();
        goAndIf();
        give();
    }

    private static void throwing() {
        firstAsItIsWorked();
        handleWithField();
        rowThatIsNone();
        noSuchItem();
        sizeAndRoom();
        shiftInOrder();
        overByZero();
        own();
        steps();
    }

    private static void keeping() {
        ownChanges();
        writtenOnce();
        throwKeepsNothing();
        loadedWhenAsked();
        loadedByLike();
        touchedOnce();
        readWhenOfTheSort();
        changedWhenNothingIsThrown();
        readAheadOfThat();
        cachedForTheHeight();
        cachedNoMore();
        fetches();
        cachedFromWhenLoaded();
    }

    private static void promises() {
        newObject();
        object();
        number();
        link();
        row();
        act();
        clear();
        call();
        gave();
        where();
        touched();
        written();
        loaded();
        cached();
        hint();
        times();
        all();
        view();
        numbersLikeBad();
        status();
        told();
    }

    // ---- how the tests are made

    private static void sentence(String words) {
        if (checksOfSentence == 0) {
            fail("nothing is looked at");
        }
        sentence = words;
        checksOfSentence = 0;
        quotes.add(words);
    }

    private static void fail(String what) {
        wrong++;
        if (wrong <= 20) {
            System.out.println("\"" + sentence + "\": " + what);
        }
    }

    private static void check(String what, long got, long want) {
        checks++;
        checksOfSentence++;
        if (got != want) {
            fail(what + " answered " + got + ", due is " + want);
        }
    }

    /** Words that the document no longer has are told, but they are no fault of the program. */
    private static void tellStaleQuotes() throws IOException {
        if (!Files.exists(DOCUMENT)) {
            return;
        }
        String text = Files.readString(DOCUMENT).replaceAll("\\s+", " ");
        for (String words : quotes.subList(0, quotes.size() - 1)) {
            if (!text.contains(words)) {
                System.out.println("the document does not say: " + words);
            }
        }
    }

    /** One call of the document's face, told as text: "number(0, 1, MAX)". */
    private static final class Call {
        private static final Map<String, Method> METHODS = new HashMap<>();
        final String text;
        final Method method;
        final Object[] arguments;

        static {
            for (Method m : LazyState.class.getDeclaredMethods()) {
                if (Modifier.isPublic(m.getModifiers())) {
                    METHODS.put(m.getName(), m);
                }
            }
        }

        Call(String text) {
            this.text = text;
            int open = text.indexOf('(');
            method = METHODS.get(text.substring(0, open));
            String inside = text.substring(open + 1, text.length() - 1);
            String[] words = inside.isEmpty() ? new String[0] : inside.split(", ");
            arguments = new Object[words.length];
            for (int k = 0; k < words.length; k++) {
                long n = numberOf(words[k]);
                boolean wide = method.getParameterTypes()[k] == long.class;
                arguments[k] = wide ? (Object) n : (Object) Math.toIntExact(n);
            }
        }

        static long numberOf(String word) {
            switch (word) {
                case "NONE": return NONE;
                case "MIN": return MIN;
                case "MAX": return MAX;
                case "IMIN": return Integer.MIN_VALUE;
                case "IMAX": return Integer.MAX_VALUE;
                default: return Long.parseLong(word);
            }
        }

        long on(LazyState state) {
            try {
                return ((Number) method.invoke(state, arguments)).longValue();
            } catch (InvocationTargetException e) {
                throw new IllegalStateException(text + " threw", e.getCause());
            } catch (IllegalAccessException e) {
                throw new IllegalStateException(text, e);
            }
        }
    }

    /** An object of LazyState that knows its calls, so that they can be made again on another one. */
    private static final class Probe {
        final LazyState state = new LazyState();
        final List<Call> log = new ArrayList<>();

        Probe(int... types) {
            for (int type : types) {
                ask("object(" + type + ")");
            }
        }

        long ask(String text) {
            Call call = new Call(text);
            log.add(call);
            if (log.size() > MOST_CALLS) {
                fail("the test makes too many calls");
            }
            return call.on(state);
        }

        /** A call and its answer; what is refused must change nothing. */
        void due(String text, long want) {
            if (want == BAD || want == FULL) {
                changesNothing(text);
            }
            check(text, ask(text), want);
        }

        void changesNothing(String text) {
            Call call = new Call(text);
            List<Call> looks = looks();
            if (call.method.getName().equals("view")) {
                looks.remove(0);
            }
            int room = Math.max(1, MOST_CALLS - 1 - log.size());
            for (int from = 0; from < looks.size(); from += room) {
                compare(call, looks.subList(from, Math.min(looks.size(), from + room)));
            }
            compare(call, aftermath());
        }

        private LazyState again() {
            LazyState other = new LazyState();
            for (Call call : log) {
                call.on(other);
            }
            return other;
        }

        /** What answers later calls give without this call, and with it. */
        private void compare(Call call, List<Call> later) {
            if (log.size() + 1 + later.size() > MOST_CALLS) {
                fail("the test makes too many calls");
            }
            LazyState without = again();
            LazyState with = again();
            call.on(with);
            for (Call next : later) {
                check("behind " + call.text + " " + next.text, next.on(with), next.on(without));
            }
        }

        /** All that can be looked at, the status first. */
        private List<Call> looks() {
            LazyState other = again();
            List<Call> looks = new ArrayList<>();
            add(looks, "status()");
            add(looks, "gave()");
            add(looks, "where()");
            for (int what = 0; what <= 8; what++) {
                add(looks, "told(" + what + ")");
            }
            for (int k = 0; k <= other.told(3); k++) {
                add(looks, "touched(" + k + ", 0)");
                add(looks, "touched(" + k + ", 1)");
            }
            for (int k = 0; k <= other.told(5); k++) {
                add(looks, "written(" + k + ")");
            }
            for (int o = 0; o < other.told(0); o++) {
                addLooksAt(looks, o, other.told(1));
            }
            return looks;
        }

        private static void addLooksAt(List<Call> looks, int o, int height) {
            add(looks, "loaded(" + o + ")");
            add(looks, "cached(" + o + ")");
            for (int f = 0; f < 6; f++) {
                add(looks, "times(" + (8 * o + f) + ")");
                add(looks, "view(" + o + ", " + f + ", 0, NONE)");
                add(looks, "view(" + o + ", " + f + ", " + Math.max(0, height - 1) + ", NONE)");
                add(looks, "view(" + o + ", " + f + ", " + height + ", NONE)");
            }
            for (int i = 0; i < 8; i++) {
                add(looks, "view(" + o + ", 1, " + height + ", " + i + ")");
                add(looks, "view(" + o + ", 2, " + height + ", " + i + ")");
                add(looks, "view(" + o + ", 5, " + height + ", " + i + ")");
            }
        }

        /** Calls that change what only they can show: the ACTS, what is CACHED, the next numbers. */
        private static List<Call> aftermath() {
            List<Call> calls = new ArrayList<>();
            add(calls, "hint(0)");
            for (int behaviour = 0; behaviour < 6; behaviour++) {
                add(calls, "call(0, " + behaviour + ", 3)");
                add(calls, "gave()");
                add(calls, "where()");
                add(calls, "told(2)");
                add(calls, "told(3)");
                add(calls, "told(5)");
                add(calls, "told(7)");
            }
            add(calls, "told(8)");
            add(calls, "object(1)");
            add(calls, "number(0, 0, -77)");
            add(calls, "told(1)");
            for (int behaviour = 0; behaviour < 6; behaviour++) {
                add(calls, "act(" + behaviour + ", 17, 0, 0, 0, 0, 0)");
                add(calls, "clear(" + behaviour + ")");
            }
            return calls;
        }

        private static void add(List<Call> calls, String text) {
            calls.add(new Call(text));
        }

        /** BEHAVIOUR 0 gets these ACTS alone: "SET 1 5; GIVE 1". What a kind does not name is -9. */
        Probe acts(String text) {
            ask("clear(0)");
            int number = 0;
            for (String words : text.split("; ")) {
                check("act " + words, ask(actOf(0, words)), number);
                number++;
            }
            return this;
        }

        void calls(String acts, long v, int want) {
            acts(acts);
            check("call by " + acts, ask("call(0, 0, " + v + ")"), want);
        }

        void gives(String acts, long v, long want) {
            calls(acts, v, 0);
            check("gave by " + acts + " with " + v, ask("gave()"), want);
            check("where of " + acts, ask("where()"), NONE);
        }

        void throwsAt(String acts, long v, int want, int at) {
            calls(acts, v, want);
            check("where of " + acts + " with " + v, ask("where()"), at);
            check("gave by " + acts, ask("gave()"), 0);
            check("written by " + acts, ask("told(5)"), 0);
        }

        void touches(int... leafAndChanged) {
            int count = leafAndChanged.length / 2;
            int changed = 0;
            for (int k = 0; k < count; k++) {
                check("touched(" + k + ", 0)", ask("touched(" + k + ", 0)"), leafAndChanged[2 * k]);
                check("touched(" + k + ", 1)", ask("touched(" + k + ", 1)"), leafAndChanged[2 * k + 1]);
                changed += leafAndChanged[2 * k + 1];
            }
            due("touched(" + count + ", 0)", NONE);
            due("told(3)", count);
            due("told(4)", changed);
        }

        void writes(int... leaves) {
            for (int k = 0; k < leaves.length; k++) {
                due("written(" + k + ")", leaves[k]);
            }
            due("written(" + leaves.length + ")", NONE);
            due("told(5)", leaves.length);
        }

        /** A FIELD as it is now. */
        void has(int o, int f, long want) {
            String text = "view(" + o + ", " + f + ", " + ask("told(1)") + ", NONE)";
            check(text, ask(text), want);
        }

        void hasItems(int o, int f, long... want) {
            has(o, f, want.length);
            long height = ask("told(1)");
            for (int i = 0; i < want.length; i++) {
                String text = "view(" + o + ", " + f + ", " + height + ", " + i + ")";
                check(text, ask(text), want[i]);
            }
        }

        /** A ROW of OBJECT 0 gets these ITEMS, by a CALL. */
        Probe fill(int f, int... items) {
            ask("row(0, " + f + ", " + items.length + ")");
            StringBuilder acts = new StringBuilder("GO 1");
            for (int i = 0; i < items.length; i++) {
                acts.append("; SET 1 ").append(i).append("; SET 2 ").append(items[i]);
                acts.append("; LAY 0 ").append(f).append(" 1 2");
            }
            calls(acts.toString(), 0, 0);
            return this;
        }
    }

    private static final List<String> KINDS = List.of("SET", "ADD", "LESS", "OVER", "GET", "PUT", "LINK", "TIE", "ITEM",
        "LAY", "ROW", "SHIFT", "SAME", "LIKE", "GO", "IF", "GIVE", "THROW");

    private static String actOf(int behaviour, String text) {
        String[] words = text.split(" ");
        int kind = KINDS.indexOf(words[0]);
        // GO names b alone
        int first = words[0].equals("GO") ? 1 : 0;
        String[] n = {"-9", "-9", "-9", "-9", "-9"};
        for (int k = 1; k < words.length; k++) {
            n[first + k - 1] = words[k];
        }
        return "act(" + behaviour + ", " + kind + ", " + String.join(", ", n) + ")";
    }

    /** An OBJECT of CLASS 2 whose NUMBER has been 1, 2 .. up to that HEIGHT. */
    private static Probe atHeight(int height) {
        Probe x = new Probe(2);
        for (int k = 1; k <= height; k++) {
            check("number", x.ask("number(0, 0, " + k + ")"), k);
        }
        return x;
    }

    private static int[] ofOneClass(int count, int type) {
        int[] types = new int[count];
        Arrays.fill(types, type);
        return types;
    }

    // ---- Terms: STATE

    private static void mostCalls() {
        sentence("An object is used for at most 512 calls after it has been made");
        Probe x = new Probe(0);
        x.acts("ADD 0 0 0; GET 1 0 0; GIVE 0");
        while (x.log.size() < MOST_CALLS - 2) {
            x.ask("call(0, 0, 4)");
        }
        x.due("gave()", 8);
        x.due("told(8)", MOST_CALLS - 2 - 5);
        Probe y = new Probe(0);
        for (int k = 0; k < MOST_CALLS - 2; k++) {
            check("act and clear", y.ask(k % 2 == 0 ? "act(5, 17, 0, 0, 0, 0, 0)" : "clear(5)"), k % 2);
        }
        y.due("clear(5)", 0);
        Probe z = atHeight(40);
        while (z.log.size() < MOST_CALLS - 1) {
            z.ask("number(0, 0, 41)");
        }
        check("the last view", z.ask("view(0, 0, 1, NONE)"), 1);
    }

    private static void objectsAtMost() {
        sentence("OBJECTS, numbered from 0, 24 at most, have a CLASS");
        Probe x = new Probe();
        x.due("object(-1)", BAD);
        x.due("object(3)", BAD);
        x.due("number(0, 0, 1)", BAD);
        for (int o = 0; o < 24; o++) {
            x.due("object(" + o % 3 + ")", o);
        }
        x.due("object(0)", FULL);
        x.due("object(1)", FULL);
        x.due("object(2)", FULL);
        x.due("object(3)", BAD);
        x.due("object(-1)", BAD);
        x.due("told(0)", 24);
        x.due("number(23, 0, 5)", 1);
        x.due("number(24, 0, 5)", BAD);
        x.due("link(22, 3, 23)", 2);
        x.due("link(22, 3, 24)", BAD);
        x.due("call(23, 0, 0)", 0);
        x.due("call(24, 0, 0)", BAD);
    }

    private static void fieldsOfClass0() {
        sentence("0 has FIELDS 0, 1 (NUMBERS), 2 (a LINK)");
        fieldsOf(0);
    }

    private static void fieldsOfClass1() {
        sentence("1: 0, 1, 2 (NUMBERS), 3, 4 (LINKS), 5 (a ROW)");
        fieldsOf(1);
    }

    private static void fieldsOfClass2() {
        sentence("2: 0 (a NUMBER), 1, 2 (ROWS), 3 (a LINK)");
        fieldsOf(2);
    }

    /** The middle one of three OBJECTS, so that a FIELD too small or too large would be one of its neighbours'. */
    private static void fieldsOf(int type) {
        for (int f = -1; f <= 8; f++) {
            boolean there = f >= 0 && f < SORTS[type].length();
            char sort = there ? SORTS[type].charAt(f) : '-';
            Probe x = new Probe(type, type, type);
            x.due("view(1, " + f + ", 0, NONE)", sort == '-' ? BAD : sort == 'N' ? 0 : NONE);
            x.due("status()", there ? 0 : BAD);
            x.due("number(1, " + f + ", 6)", sort == 'N' ? 1 : BAD);
            x.due("link(1, " + f + ", 2)", sort == 'L' ? 1 : BAD);
            x.due("row(1, " + f + ", 4)", sort == 'R' ? 1 : BAD);
            x.due("told(1)", there ? 1 : 0);
            if (f >= 0 && f < 8) {
                x.due("times(" + (8 + f) + ")", there ? 0 : BAD);
            }
        }
    }

    private static void numberBits() {
        sentence("A NUMBER has 64 bits, 0 at first");
        long[] numbers = {MAX, MIN, MAX - 1, MIN + 1, -1, ROUND, ROUND + 1, -ROUND, 1L << 31};
        Probe x = new Probe(0);
        x.has(0, 0, 0);
        x.has(0, 1, 0);
        x.due("number(0, 0, 0)", 0);
        for (int k = 0; k < numbers.length; k++) {
            x.due("number(0, 0, " + numbers[k] + ")", k + 1);
            x.has(0, 0, numbers[k]);
        }
        for (long n : numbers) {
            x.gives("PUT 0 1 0; SET 0 1; GET 0 0 1; GIVE 0", n, n);
            x.has(0, 1, n);
        }
    }

    private static void linkOrNone() {
        sentence("a LINK is an OBJECT or NONE (at first)");
        Probe x = new Probe(0, 1, 2);
        x.has(0, 2, NONE);
        x.due("link(0, 2, NONE)", 0);
        x.due("link(0, 2, 2)", 1);
        x.due("link(0, 2, 3)", BAD);
        x.due("link(0, 2, -1)", BAD);
        x.due("link(0, 2, -2)", BAD);
        x.due("link(0, 2, -4)", BAD);
        x.due("link(0, 2, 24)", BAD);
        x.due("link(0, 2, IMIN)", BAD);
        x.due("link(0, 2, IMAX)", BAD);
        x.due("link(0, 2, 0)", 2);
        x.has(0, 2, 0);
        x.due("link(0, 2, NONE)", 3);
        x.has(0, 2, NONE);
        x.due("object(0)", 3);
        x.due("link(0, 2, 3)", 4);
        x.due("link(0, 2, 4)", BAD);
    }

    private static void rowSizes() {
        sentence("a ROW is NONE (at first) or 0 to 8 ITEMS of 32 bits.");
        Probe x = new Probe(1);
        x.has(0, 5, NONE);
        x.due("row(0, 5, NONE)", 0);
        x.due("row(0, 5, 0)", 1);
        x.hasItems(0, 5);
        x.due("row(0, 5, 1)", 2);
        x.hasItems(0, 5, 0);
        x.due("row(0, 5, 8)", 3);
        x.hasItems(0, 5, 0, 0, 0, 0, 0, 0, 0, 0);
        x.due("row(0, 5, 9)", BAD);
        x.due("row(0, 5, -1)", BAD);
        x.due("row(0, 5, -2)", BAD);
        x.due("row(0, 5, -4)", BAD);
        x.due("row(0, 5, IMAX)", BAD);
        x.due("row(0, 5, IMIN)", BAD);
        x.due("row(0, 5, NONE)", 4);
        x.has(0, 5, NONE);
        x.fill(5, Integer.MAX_VALUE, Integer.MIN_VALUE, -1, 1, 2, 3, 4, 5);
        x.hasItems(0, 5, Integer.MAX_VALUE, Integer.MIN_VALUE, -1, 1, 2, 3, 4, 5);
    }

    private static void leafNumbers() {
        sentence("LEAF 8 o + f is FIELD f of OBJECT o.");
        Probe x = new Probe(ofOneClass(24, 1));
        x.acts("PUT 0 0 0; ROW 0 5 0");
        x.due("call(23, 0, 1)", 0);
        x.touches(184, 1, 189, 1);
        x.writes(184, 189);
        x.due("times(184)", 1);
        x.due("times(189)", 1);
        x.due("times(188)", 0);
        x.due("times(190)", BAD);
        x.due("times(191)", BAD);
        x.due("times(192)", BAD);
        x.due("call(0, 0, 1)", 0);
        x.touches(0, 1, 5, 1);
        x.writes(0, 5);
        x.due("times(0)", 1);
        x.due("times(5)", 1);
        x.due("times(6)", BAD);
        x.due("times(7)", BAD);
        x.due("times(8)", 0);
        x.due("times(-1)", BAD);
        x.due("times(-8)", BAD);
    }

    private static void heightAtMost() {
        sentence("HEIGHT is 0 at first, 40 at most");
        check("told(1)", new Probe().ask("told(1)"), 0);
        String[] last = {"number(0, 0, 99)", "link(0, 3, 0)", "row(0, 1, 0)", "call(0, 0, 99)"};
        for (String text : last) {
            Probe x = atHeight(39).acts("PUT 0 0 0");
            x.due("told(1)", 39);
            x.due(text, text.startsWith("call") ? 0 : 40);
            x.due("told(1)", 40);
            x.due("number(0, 0, 100)", FULL);
            x.due("link(0, 3, " + (text.startsWith("link") ? "NONE" : "0") + ")", FULL);
            x.due("row(0, 1, 1)", FULL);
            x.due("row(0, 2, 0)", FULL);
            x.due("call(0, 0, 100)", FULL);
            x.due("all(0, 0, 100)", FULL);
            x.due("told(1)", 40);
        }
    }

    private static void heightOnce() {
        sentence("each call here that changes some LEAF makes it 1 more, once");
        Probe x = new Probe(1, 2);
        x.due("told(1)", 0);
        x.calls("PUT 0 0 0; PUT 0 1 0; PUT 0 0 3; PUT 0 0 0; TIE 0 3 0; ROW 0 5 0", 7, 0);
        x.due("told(1)", 1);
        x.due("call(0, 0, 7)", 0);
        x.due("told(1)", 1);
        x.due("number(0, 0, 7)", 1);
        x.due("number(0, 0, 8)", 2);
        x.due("link(0, 3, 0)", 2);
        x.due("link(0, 3, 1)", 3);
        x.due("row(0, 5, 7)", 3);
        x.due("row(0, 5, 6)", 4);
        String[] others = {"object(0)", "act(1, 16, 0, 0, 0, 0, 0)", "all(0, 0, 9)", "hint(0)", "clear(0)",
            "call(0, 0, 0)", "call(0, 1, 0)", "view(0, 0, 0, NONE)"};
        for (String text : others) {
            x.ask(text);
            x.due("told(1)", 4);
        }
    }

    private static void heightsForEver() {
        sentence("the STATE of each HEIGHT can be looked at for ever");
        Probe x = atHeight(37);
        x.due("link(0, 3, 0)", 38);
        x.due("row(0, 1, 3)", 39);
        x.calls("SET 1 2; LAY 0 1 1 0; PUT 0 0 1", 77, 0);
        for (int height = 0; height <= 37; height++) {
            x.due("view(0, 0, " + height + ", NONE)", height);
            x.due("view(0, 3, " + height + ", NONE)", NONE);
            x.due("view(0, 1, " + height + ", NONE)", NONE);
        }
        x.due("view(0, 0, 39, NONE)", 37);
        x.due("view(0, 0, 40, NONE)", 2);
        x.due("view(0, 3, 38, NONE)", 0);
        x.due("view(0, 1, 38, NONE)", NONE);
        x.due("view(0, 1, 39, 2)", 0);
        x.due("view(0, 1, 40, 2)", 77);
        x.due("view(0, 0, 41, NONE)", BAD);
        x.due("view(0, 0, -1, NONE)", BAD);
    }

    private static void firstContents() {
        sentence("(an OBJECT has its first contents at all HEIGHTS ahead of its own changes)");
        Probe x = atHeight(3);
        x.due("object(1)", 1);
        for (int height = 0; height <= 3; height++) {
            x.due("view(1, 0, " + height + ", NONE)", 0);
            x.due("view(1, 3, " + height + ", NONE)", NONE);
            x.due("view(1, 5, " + height + ", NONE)", NONE);
            x.due("status()", 0);
        }
        x.due("number(1, 0, 9)", 4);
        x.due("view(1, 0, 3, NONE)", 0);
        x.due("view(1, 0, 4, NONE)", 9);
        x.due("view(1, 5, 4, NONE)", NONE);
        x.due("view(1, 0, 5, NONE)", BAD);
    }

    // ---- Terms: BEHAVIOURS

    private static void behavioursAndActs() {
        sentence("BEHAVIOURS 0 .. 5 have ACTS, numbered from 0, 32 at most.");
        for (int behaviour = -1; behaviour <= 6; behaviour++) {
            boolean there = behaviour >= 0 && behaviour <= 5;
            Probe x = new Probe(0);
            x.due("act(" + behaviour + ", 16, 0, 0, 0, 0, 0)", there ? 0 : BAD);
            x.due("call(0, " + behaviour + ", 4)", there ? 0 : BAD);
            x.due("gave()", there ? 4 : 0);
            x.due("all(0, " + behaviour + ", 4)", there ? 1 : BAD);
            x.due("clear(" + behaviour + ")", there ? 1 : BAD);
        }
        Probe x = new Probe(0);
        for (int k = 0; k < 32; k++) {
            x.due(k < 31 ? "act(3, 0, 1, 0, 0, 0, 0)" : "act(3, 16, 0, 0, 0, 0, 0)", k);
        }
        x.due("act(3, 0, 1, 0, 0, 0, 0)", FULL);
        x.due("act(3, 17, 0, 0, 0, 0, 0)", FULL);
        x.due("act(2, 17, 0, 0, 0, 0, 0)", 0);
        x.due("act(4, 17, 0, 0, 0, 0, 0)", 0);
        x.due("call(0, 3, 6)", 0);
        x.due("gave()", 6);
        x.due("told(7)", 32);
        x.due("clear(3)", 32);
        x.due("act(3, 17, 0, 0, 0, 0, 0)", 0);
    }

    private static void handlesAndValues() {
        sentence("A CALL has HANDLES 0 .. 3, each an OBJECT or NONE, and VALUES 0 .. 3, 64 bits");
        for (int k = 0; k < 4; k++) {
            Probe x = new Probe(0, 0);
            x.due("link(0, 2, 1)", 1);
            x.due("number(1, 0, MIN)", 2);
            x.gives("LINK " + k + " 0 2; GET 1 " + k + " 0; GIVE 1", 0, MIN);
            x.gives("SET " + k + " MAX; GIVE " + k, 0, MAX);
            x.throwsAt("LINK 0 0 2; LINK " + k + " 0 2; GET 1 " + k + " 0", 0, NULL, 2);
        }
        Probe x = new Probe(0);
        x.gives("SET 0 1; SET 1 2; SET 2 4; SET 3 8; ADD 0 0 1; ADD 0 0 2; ADD 0 0 3; GIVE 0", 0, 15);
        x.due("act(0, 16, 4, 0, 0, 0, 0)", BAD);
        x.due("act(0, 16, -1, 0, 0, 0, 0)", BAD);
        x.due("act(0, 12, 0, 4, 0, 0, 0)", BAD);
        x.due("act(0, 12, 0, -1, 0, 0, 0)", BAD);
        x.due("act(0, 12, 0, 3, 3, 0, 0)", 8);
    }

    private static void handlesAndValuesAtFirst() {
        sentence("HANDLE 0 is the OBJECT that is called, VALUE 0 the number told, the others NONE, 0.");
        Probe x = new Probe(0);
        x.due("link(0, 2, 0)", 1);
        x.gives("GIVE 0", MIN, MIN);
        x.gives("LINK 1 0 2; SAME 1 0 1; GIVE 1", 5, 1);
        for (int k = 1; k < 4; k++) {
            x.gives("GIVE " + k, 5, 0);
            x.throwsAt("GET 0 " + k + " 0", 5, NULL, 0);
            // what an earlier CALL left is not there
            x.gives("LINK " + k + " 0 2; SET " + k + " 9; GIVE " + k, 5, 9);
            x.gives("GIVE " + k, 5, 0);
            x.throwsAt("GET 0 " + k + " 0", 5, NULL, 0);
        }
    }

    /** For each kind what its numbers are: p a VALUE or HANDLE, f a FIELD, t an ACT, v any, - is not named. */
    private static final String[] FORMS = {"pv---", "ppp--", "ppp--", "ppp--", "ppf--", "pfp--", "ppf--", "pfp--", "ppfp-",
        "pfpp-", "pfp--", "pfpfp", "ppp--", "ppp--", "-t---", "pt---", "p----", "-----"};

    private static void numbersOfActs() {
        sentence("(x, y, z VALUES, g, h HANDLES, f, k FIELDS 0 .. 7; what a kind does not name is not looked at)");
        for (int kind = 0; kind < FORMS.length; kind++) {
            for (int which = 0; which < 5; which++) {
                char form = FORMS[kind].charAt(which);
                long most = form == 'p' ? 3 : form == 'f' ? 7 : form == 't' ? 32 : Integer.MAX_VALUE;
                boolean any = form == 'v' || form == '-';
                actWith(kind, which, most, 0);
                actWith(kind, which, 0, 0);
                actWith(kind, which, -1, any ? 0 : BAD);
                actWith(kind, which, Integer.MIN_VALUE, any ? 0 : BAD);
                if (which == 1) {
                    actWith(kind, which, MIN, any ? 0 : BAD);
                    actWith(kind, which, ROUND, any ? 0 : BAD);
                    actWith(kind, which, ROUND + most, any ? 0 : BAD);
                }
                if (!any) {
                    actWith(kind, which, most + 1, BAD);
                    actWith(kind, which, Integer.MAX_VALUE, BAD);
                }
            }
        }
    }

    private static void actWith(int kind, int which, long n, int want) {
        String[] words = {"0", "0", "0", "0", "0"};
        words[which] = Long.toString(n);
        Probe x = new Probe(1);
        x.due("act(0, " + kind + ", " + String.join(", ", words) + ")", want);
        x.due("clear(0)", want == 0 ? 1 : 0);
    }

    private static void names() {
        sentence("BAD is -1 (a number is not as told, there is no such thing), FULL -2, NONE -3.");
        check("BAD", BAD, -1);
        check("FULL", FULL, -2);
        check("NONE", NONE, -3);
    }

    /** Refused of any object with three OBJECTS, one of each CLASS. */
    private static final String[] REFUSED = {"object(-1)", "object(3)", "number(0, 2, 8)", "number(1, 5, 8)", "number(2, 4, 8)",
        "number(3, 0, 8)", "number(-1, 0, 8)", "link(0, 2, 3)", "link(0, 2, -1)", "link(1, 2, 0)", "link(3, 2, 0)", "row(1, 5, 9)",
        "row(1, 5, -1)", "row(2, 0, 1)", "row(3, 1, 1)", "act(6, 16, 0, 0, 0, 0, 0)", "act(-1, 16, 0, 0, 0, 0, 0)",
        "act(1, 18, 0, 0, 0, 0, 0)", "act(1, 16, 4, 0, 0, 0, 0)", "act(1, 11, 0, 1, 0, 8, 0)", "act(1, 14, 0, 33, 0, 0, 0)",
        "clear(6)", "clear(-1)", "call(3, 0, 8)", "call(-1, 0, 8)", "call(0, 6, 8)", "call(0, -1, 8)", "touched(-1, 0)",
        "touched(0, 2)", "written(-1)", "loaded(3)", "loaded(-1)", "cached(3)", "cached(-1)", "hint(3)", "hint(-1)", "times(3)",
        "times(24)", "times(-1)", "all(3, 0, 8)", "all(0, 6, 8)", "view(0, 3, 0, NONE)", "view(0, 0, 41, NONE)", "view(1, 5, 0, 8)",
        "view(3, 0, 0, NONE)", "told(9)", "told(-1)"};
    /** Refused at HEIGHT 40, if they would change something. */
    private static final String[] TOO_HIGH = {"number(0, 0, 88)", "link(0, 2, 2)", "row(2, 2, 3)", "call(0, 0, 8)", "call(0, 5, 8)",
        "all(0, 0, 8)"};

    private static void refusals() {
        sentence("What is refused changes nothing.");
        for (boolean throwing : new boolean[] {false, true}) {
            Probe x = busy(throwing);
            for (String text : REFUSED) {
                x.due(text, BAD);
                x.ask("view(0, 0, 0, NONE)");
            }
            Probe high = busy(throwing);
            for (int height = (int) high.ask("told(1)"); height < 40; height++) {
                high.ask("number(0, 0, " + height + ")");
            }
            high.ask("hint(1)");
            for (String text : TOO_HIGH) {
                high.due(text, FULL);
            }
            for (String text : REFUSED) {
                high.due(text, BAD);
                high.ask("view(0, 0, 0, NONE)");
            }
            for (int k = (int) high.ask("told(0)"); k < 24; k++) {
                high.ask("object(0)");
            }
            high.due("object(0)", FULL);
            for (int k = 0; k < 32; k++) {
                high.ask("act(1, 0, 0, 0, 0, 0, 0)");
            }
            high.due("act(1, 17, 0, 0, 0, 0, 0)", FULL);
        }
    }

    /** All that a refused call could spoil is there: ACTS, a CALL with all that is told of it, what is CACHED, a status of 0. */
    private static Probe busy(boolean throwing) {
        Probe x = new Probe(0, 1, 2);
        x.ask("link(0, 2, 1)");
        x.ask("row(2, 1, 2)");
        x.ask("act(1, 16, 0, 0, 0, 0, 0)");
        x.calls("LINK 1 0 2; GET 1 1 0; PUT 0 0 0; PUT 1 2 0; ROW 1 5 3; GIVE 0" + (throwing ? "; THROW" : ""), 6, 0);
        if (throwing) {
            x.calls("LINK 1 0 2; PUT 1 2 1; LIKE 1 0 1; THROW", 6, OWN);
        }
        x.ask("hint(2)");
        x.ask("view(0, 0, 0, NONE)");
        return x;
    }

    // ---- ACTS

    private static void setAny() {
        sentence("0 SET x v (v any).");
        for (long v : new long[] {MIN, MAX, 0, -1, ROUND, NONE, BAD, FULL}) {
            new Probe(0).gives("SET 2 " + v + "; GIVE 2", 5, v);
        }
        new Probe(0).gives("SET 0 0; GIVE 0", 5, 0);
    }

    private static void addAndLess() {
        sentence("1 ADD x y z, 2 LESS x y z: y + z, y - z, going round.");
        long[][] sums = {{MAX - 1, 1, MAX}, {MAX, 0, MAX}, {MAX, 1, MIN}, {MAX, MAX, -2}, {MIN + 1, -1, MIN}, {MIN, -1, MAX},
            {MIN, MIN, 0}, {MIN, MAX, -1}, {ROUND - 1, 1, ROUND}};
        for (long[] n : sums) {
            new Probe(0).gives("SET 1 " + n[1] + "; ADD 2 0 1; GIVE 2", n[0], n[2]);
            new Probe(0).gives("SET 1 " + n[1] + "; ADD 0 1 0; GIVE 0", n[0], n[2]);
        }
        long[][] differences = {{MIN + 1, 1, MIN}, {MIN, 0, MIN}, {MIN, 1, MAX}, {MAX - 1, -1, MAX}, {MAX, -1, MIN},
            {0, MIN, MIN}, {-1, MIN, MAX}, {MAX, MIN, -1}, {3, 5, -2}};
        for (long[] n : differences) {
            new Probe(0).gives("SET 1 " + n[1] + "; LESS 2 0 1; GIVE 2", n[0], n[2]);
        }
        new Probe(0).gives("LESS 1 0 0; GIVE 1", MIN, 0);
        new Probe(0).gives("ADD 0 0 0; GIVE 0", 21, 42);
    }

    private static void over() {
        sentence("3 OVER x y z: y / z, cut off, going round.");
        long[][] parts = {{7, 2, 3}, {-7, 2, -3}, {7, -2, -3}, {-7, -2, 3}, {1, 2, 0}, {-1, 2, 0}, {0, 5, 0},
            {MIN, -1, MIN}, {MIN + 1, -1, MAX}, {MAX, -1, -MAX}, {MIN, 1, MIN}, {MIN, MIN, 1}, {MAX, MIN, 0}, {MIN, MAX, -1}};
        for (long[] n : parts) {
            new Probe(0).gives("SET 1 " + n[1] + "; OVER 2 0 1; GIVE 2", n[0], n[2]);
        }
    }

    private static void getNumber() {
        sentence("4 GET x h f: VALUE x is the NUMBER.");
        for (int f = 0; f < 3; f++) {
            Probe x = new Probe(1);
            x.due("number(0, 0, 10)", 1);
            x.due("number(0, 1, MIN)", 2);
            x.due("number(0, 2, MAX)", 3);
            x.gives("GET 3 0 " + f + "; GIVE 3", 0, new long[] {10, MIN, MAX}[f]);
            x.touches(f, 0);
        }
        new Probe(1).throwsAt("GET 3 0 3", 0, CAST, 0);
        new Probe(0).gives("GET 0 0 1; GIVE 0", 8, 0);
    }

    private static void putNumber() {
        sentence("5 PUT h f x: the NUMBER is VALUE x.");
        for (int f = 0; f < 3; f++) {
            Probe x = new Probe(1);
            x.calls("SET 3 MIN; PUT 0 " + f + " 3", 5, 0);
            for (int other = 0; other < 3; other++) {
                x.has(0, other, other == f ? MIN : 0);
            }
            x.touches(f, 1);
        }
        new Probe(1).throwsAt("PUT 0 3 0", 0, CAST, 0);
    }

    private static void linkHandle() {
        sentence("6 LINK g h f: HANDLE g is the LINK.");
        Probe x = new Probe(1, 0);
        x.due("link(0, 4, 1)", 1);
        x.gives("LINK 1 0 4; PUT 1 1 0; GET 2 1 1; GIVE 2", 6, 6);
        x.has(1, 1, 6);
        // a LINK that is NONE makes the HANDLE NONE
        x.gives("LINK 1 0 4; LINK 1 0 3; SAME 1 1 3; GIVE 1", 6, 1);
        x.throwsAt("LINK 0 0 3; GET 1 0 0", 6, NULL, 1);
        x.throwsAt("LINK 0 0 5", 6, CAST, 0);
    }

    private static void tieLink() {
        sentence("7 TIE h f g: the LINK is HANDLE g.");
        Probe x = new Probe(1, 0);
        x.due("link(0, 3, 1)", 1);
        x.calls("LINK 2 0 3; TIE 0 4 2; TIE 2 2 0", 0, 0);
        x.has(0, 4, 1);
        x.has(1, 2, 0);
        x.calls("TIE 0 4 3", 0, 0);
        x.has(0, 4, NONE);
        x.has(0, 3, 1);
        x.throwsAt("TIE 0 5 3", 0, CAST, 0);
        x.throwsAt("TIE 3 3 0", 0, NULL, 0);
    }

    private static void itemOfRow() {
        sentence("8 ITEM x h f y: VALUE x is ITEM VALUE y of the ROW.");
        Probe x = new Probe(2).fill(1, 10, 11, 12, 13, 14, 15, 16, Integer.MIN_VALUE);
        x.fill(2, -20);
        for (int i = 0; i < 7; i++) {
            x.gives("ITEM 3 0 1 0; GIVE 3", i, 10 + i);
        }
        x.gives("ITEM 3 0 1 0; GIVE 3", 7, Integer.MIN_VALUE);
        x.throwsAt("ITEM 3 0 1 0", 8, INDEX, 0);
        x.throwsAt("ITEM 3 0 1 0", -1, INDEX, 0);
        x.gives("ITEM 0 0 2 1; GIVE 0", 9, -20);
        x.throwsAt("ITEM 0 0 2 0", 1, INDEX, 0);
    }

    private static void layLowestBits() {
        sentence("9 LAY h f y x: that ITEM is the lowest 32 bits of VALUE x.");
        long[][] bits = {{Integer.MAX_VALUE, Integer.MAX_VALUE}, {1L << 31, Integer.MIN_VALUE}, {ROUND - 1, -1}, {ROUND, 0},
            {ROUND + 1, 1}, {-1, -1}, {Integer.MIN_VALUE, Integer.MIN_VALUE}, {Integer.MIN_VALUE - 1L, Integer.MAX_VALUE},
            {MIN, 0}, {MAX, -1}};
        for (long[] n : bits) {
            Probe x = new Probe(2).fill(2, 5, 6, 7);
            x.gives("SET 1 2; LAY 0 2 1 0; ITEM 3 0 2 1; GIVE 3", n[0], n[1]);
            x.hasItems(0, 2, 5, 6, n[1]);
            x.gives("LAY 0 2 1 0; ITEM 3 0 2 1; GIVE 3", n[0], n[1]);
            x.hasItems(0, 2, n[1], 6, n[1]);
        }
        Probe x = new Probe(2).fill(1, 1, 2, 3, 4, 5, 6, 7, 8).fill(2, 9);
        x.calls("SET 1 7; LAY 0 1 1 0", 99, 0);
        x.hasItems(0, 1, 1, 2, 3, 4, 5, 6, 7, 99);
        x.hasItems(0, 2, 9);
        x.throwsAt("SET 1 8; LAY 0 1 1 0", 98, INDEX, 1);
        x.throwsAt("SET 1 -1; LAY 0 2 1 0", 98, INDEX, 1);
        x.hasItems(0, 1, 1, 2, 3, 4, 5, 6, 7, 99);
        x.hasItems(0, 2, 9);
    }

    private static void newRow() {
        sentence("10 ROW h f x: the ROW is new, with VALUE x ITEMS, all 0.");
        Probe x = new Probe(2).fill(1, 1, 2, 3, 4, 5, 6, 7, 8).fill(2, 9, 9);
        x.calls("ROW 0 1 0", 8, 0);
        x.hasItems(0, 1, 0, 0, 0, 0, 0, 0, 0, 0);
        x.hasItems(0, 2, 9, 9);
        x.calls("ROW 0 2 0", 0, 0);
        x.hasItems(0, 2);
        // what was behind a shorter ROW does not come back
        x.fill(1, 1, 2, 3);
        x.calls("ROW 0 1 1", 3, 0);
        x.calls("ROW 0 1 0", 3, 0);
        x.hasItems(0, 1, 0, 0, 0);
        x.calls("ROW 0 2 0", 1, 0);
        x.hasItems(0, 2, 0);
    }

    private static void shiftFirstItems() {
        sentence("11 SHIFT h f g k x: the first VALUE x ITEMS of the one ROW come to the first ones of the other one.");
        for (int many = 0; many <= 2; many++) {
            Probe x = new Probe(2).fill(1, 11, 12, 13).fill(2, 21, 22);
            x.calls("SHIFT 0 1 0 2 0", many, 0);
            x.hasItems(0, 1, 11, 12, 13);
            x.hasItems(0, 2, many > 0 ? 11 : 21, many > 1 ? 12 : 22);
            Probe y = new Probe(2).fill(1, 11, 12, 13).fill(2, 21, 22);
            y.calls("SHIFT 0 2 0 1 0", many, 0);
            y.hasItems(0, 1, many > 0 ? 21 : 11, many > 1 ? 22 : 12, 13);
            y.hasItems(0, 2, 21, 22);
        }
        Probe x = new Probe(2).fill(1, 1, 2, 3, 4, 5, 6, 7, 8).fill(2, 9, 9, 9, 9, 9, 9, 9, 9);
        x.calls("SHIFT 0 1 0 2 0", 7, 0);
        x.hasItems(0, 2, 1, 2, 3, 4, 5, 6, 7, 9);
        x.calls("SHIFT 0 1 0 2 0", 8, 0);
        x.hasItems(0, 2, 1, 2, 3, 4, 5, 6, 7, 8);
        x.throwsAt("SHIFT 0 1 0 2 0", 9, INDEX, 0);
        x.calls("SHIFT 0 1 0 1 0", 8, 0);
        x.hasItems(0, 1, 1, 2, 3, 4, 5, 6, 7, 8);
        Probe y = new Probe(2, 1).fill(2, 5, 6);
        y.ask("row(1, 5, 1)");
        y.ask("link(0, 3, 1)");
        y.calls("LINK 3 0 3; SHIFT 0 2 3 5 0", 1, 0);
        y.hasItems(1, 5, 5);
        y.throwsAt("LINK 3 0 3; SHIFT 0 2 3 5 0", 2, INDEX, 1);
    }

    private static void same() {
        sentence("12 SAME x g h: VALUE x is 1, if both HANDLES are the same OBJECT, or both NONE, else 0.");
        Probe x = new Probe(0, 0);
        x.due("link(0, 2, 1)", 1);
        x.gives("SAME 1 0 0; GIVE 1", 0, 1);
        x.gives("LINK 1 0 2; LINK 2 0 2; SAME 1 1 2; GIVE 1", 0, 1);
        x.gives("LINK 1 0 2; LINK 2 1 2; SAME 1 2 3; GIVE 1", 0, 1);
        x.gives("SAME 1 2 3; GIVE 1", 0, 1);
        // alike, but two OBJECTS
        x.due("link(1, 2, 1)", 2);
        x.gives("LINK 1 0 2; SAME 0 0 1; GIVE 0", 7, 0);
        x.gives("SAME 0 0 1; GIVE 0", 7, 0);
        x.gives("SAME 0 1 0; GIVE 0", 7, 0);
        x.touches();
        x.due("told(6)", 0);
    }

    private static final String LIKE = "LINK 1 0 3; LINK 2 0 4; SET 0 7; LIKE 0 1 2; GIVE 0";

    /** OBJECT 0 links to two others that are to be like. */
    private static Probe two(int type) {
        Probe x = new Probe(1, type, type);
        x.ask("link(0, 3, 1)");
        x.ask("link(0, 4, 2)");
        return x;
    }

    private static void like() {
        sentence("13 LIKE x g h: likewise; but of two OBJECTS of one CLASS also 1, if FIELD by FIELD (from 0 on, "
            + "up to the first that is not) NUMBERS, LINKS, ROWS (NONE, or as many and the same ITEMS) are alike.");
        likeHandles();
        for (int type = 0; type < 3; type++) {
            likeFields(type);
        }
        likeRows();
    }

    private static void likeHandles() {
        new Probe(1).gives(LIKE, 0, 1);
        Probe x = new Probe(1, 0, 2);
        x.gives("SET 1 7; LIKE 1 0 3; GIVE 1", 0, 0);
        x.gives("SET 1 7; LIKE 1 3 0; GIVE 1", 0, 0);
        x.gives("LIKE 1 0 0; GIVE 1", 0, 1);
        x.touches();
        x.ask("link(0, 3, 1)");
        x.ask("link(0, 4, 2)");
        x.gives(LIKE, 0, 0);
        x.ask("link(0, 4, 1)");
        x.gives(LIKE, 0, 1);
    }

    /** As new they are alike; one FIELD that is not is the last that is looked at. */
    private static void likeFields(int type) {
        Probe alike = two(type);
        alike.gives(LIKE, 0, 1);
        alike.due("told(3)", 2 + 2 * SORTS[type].length());
        for (int f = 0; f < SORTS[type].length(); f++) {
            char sort = SORTS[type].charAt(f);
            String change = sort == 'N' ? "number(2, ?, MIN)" : sort == 'L' ? "link(2, ?, 1)" : "row(2, ?, 0)";
            Probe x = two(type);
            x.due(change.replace("?", "" + f), 3);
            x.gives(LIKE, 0, 0);
            x.due("told(3)", 2 + 2 * (f + 1));
            x.due("touched(" + (2 + 2 * f) + ", 0)", 8 + f);
            x.due("touched(" + (3 + 2 * f) + ", 0)", 16 + f);
            x.due(change.replace("?", "" + f).replace("(2", "(1"), 4);
            x.gives(LIKE, 0, 1);
        }
    }

    private static void likeRows() {
        Probe x = two(2);
        x.ask("row(1, 2, 0)");
        x.gives(LIKE, 0, 0);
        x.ask("row(2, 2, 0)");
        x.gives(LIKE, 0, 1);
        x.ask("row(1, 2, 7)");
        x.ask("row(2, 2, 8)");
        x.gives(LIKE, 0, 0);
        x.ask("row(1, 2, 8)");
        x.gives(LIKE, 0, 1);
        for (int i = 0; i < 8; i += 7) {
            x.acts("SET 1 " + i + "; LAY 0 2 1 0");
            x.due("call(1, 0, 5)", 0);
            x.gives(LIKE, 0, 0);
            x.acts("SET 1 " + i + "; LAY 0 2 1 0");
            x.due("call(2, 0, 5)", 0);
            x.gives(LIKE, 0, 1);
        }
    }

    private static void goAndIf() {
        sentence("14 GO b, 15 IF x b (if VALUE x is above 0): on at ACT b (0 .. 32).");
        Probe x = new Probe(0);
        long[][] above = {{1, 1}, {MAX, 1}, {ROUND, 1}, {0, 0}, {-1, 0}, {MIN, 0}};
        for (long[] n : above) {
            x.gives("IF 0 2; SET 0 MIN; SET 1 1; GIVE 0", n[0], n[1] == 1 ? n[0] : MIN);
        }
        x.gives("GO 2; THROW; GIVE 0", 5, 5);
        // back to ACT 0
        x.gives("SET 1 1; LESS 0 0 1; IF 0 0; GIVE 0", 3, 0);
        x.due("told(7)", 10);
        // behind the last ACT the CALL ends
        for (int b : new int[] {2, 3, 31, 32}) {
            x.gives("GO " + b + "; THROW", 5, 0);
            x.due("told(7)", 1);
            x.gives("IF 0 " + b + "; THROW", 5, 0);
            x.due("told(7)", 1);
        }
        x.due("act(0, 14, 0, 33, 0, 0, 0)", BAD);
        x.due("act(0, 14, 0, -1, 0, 0, 0)", BAD);
        x.due("act(0, 15, 0, 33, 0, 0, 0)", BAD);
        x.due("act(0, 15, 0, -1, 0, 0, 0)", BAD);
        Probe y = new Probe(0);
        for (int k = 0; k < 31; k++) {
            y.ask(k == 0 ? "act(0, 14, 0, 31, 0, 0, 0)" : "act(0, 17, 0, 0, 0, 0, 0)");
        }
        y.due("act(0, 16, 0, 0, 0, 0, 0)", 31);
        y.due("call(0, 0, 4)", 0);
        y.due("gave()", 4);
    }

    private static void give() {
        sentence("16 GIVE x: the CALL gives that. At the end it gives 0.");
        Probe x = new Probe(0);
        for (int k = 0; k < 4; k++) {
            x.gives("SET " + k + " MIN; GIVE " + k + "; THROW", 5, MIN);
            x.due("told(7)", 2);
        }
        x.gives("SET 0 4", 5, 0);
        x.due("told(7)", 1);
        x.due("call(0, 1, 5)", 0);
        x.due("gave()", 0);
        x.due("told(7)", 0);
    }

    // ---- THROWS

    private static void firstAsItIsWorked() {
        sentence("THROWS, of one ACT the first as it is worked");
        Probe x = new Probe(2);
        // no such FIELD, another sort, no such ITEM: all behind a HANDLE that is NONE
        for (String act : new String[] {"GET 1 3 7", "PUT 3 1 0", "ITEM 1 3 0 0", "LAY 3 7 0 0", "ROW 3 0 0", "SHIFT 3 7 0 7 0"}) {
            x.throwsAt(act, -1, NULL, 0);
        }
        // what VALUE 0 is comes behind the FIELD
        for (String act : new String[] {"ITEM 1 0 4 0", "LAY 0 4 0 0", "ROW 0 4 0", "SHIFT 0 4 3 1 0"}) {
            x.throwsAt(act, -1, INDEX, 0);
            x.throwsAt(act.replace('4', '0'), -1, CAST, 0);
            x.throwsAt(act.replace('4', '3'), 9, CAST, 0);
        }
        // of two ACTS the first that throws
        x.throwsAt("OVER 1 0 3; THROW", 5, ZERO, 0);
        x.throwsAt("THROW; OVER 1 0 3", 5, OWN, 0);
    }

    /** HANDLE 1 is asked for FIELD ?; HANDLE 0 has ROWS; the sort that is wanted is ahead. */
    private static final String[] ASKING = {"N:GET 1 1 ?", "N:PUT 1 ? 1", "L:LINK 1 1 ?", "L:TIE 1 ? 3", "R:ITEM 1 1 ? 3",
        "R:LAY 1 ? 3 1", "R:ROW 1 ? 3", "R:SHIFT 1 ? 0 1 3", "R:SHIFT 0 1 1 ? 3"};

    private static void handleWithField() {
        sentence("of a HANDLE with a FIELD: 1 NULL (the HANDLE is NONE), 3 INDEX (its OBJECT has no such FIELD), "
            + "2 CAST (that FIELD is of another sort)");
        for (String asking : ASKING) {
            char wanted = asking.charAt(0);
            for (int f = 0; f < 8; f++) {
                String act = asking.substring(2).replace("?", "" + f);
                Probe none = new Probe(2);
                none.ask("row(0, 1, 1)");
                none.throwsAt("SET 0 0; " + act, 0, NULL, 1);
                none.due("told(7)", 2);
                for (int type = 0; type < 3; type++) {
                    askField(act, wanted, type, f);
                }
            }
        }
    }

    private static void askField(String act, char wanted, int type, int f) {
        Probe x = new Probe(2, type);
        x.ask("row(0, 1, 1)");
        x.ask("link(0, 3, 1)");
        if (type == 1) {
            x.ask("row(1, 5, 1)");
        }
        if (type == 2) {
            x.ask("row(1, 1, 1)");
            x.ask("row(1, 2, 1)");
        }
        char sort = f < SORTS[type].length() ? SORTS[type].charAt(f) : '-';
        int want = sort == '-' ? INDEX : sort == wanted ? 0 : CAST;
        x.calls("LINK 1 0 3; " + act, 0, want);
        x.due("where()", want == 0 ? NONE : 1);
        x.due("loaded(1)", 1);
    }

    private static void rowThatIsNone() {
        sentence("then NULL (a ROW that is NONE; of ROW none such)");
        for (long y : new long[] {0, -1, 8, MIN, MAX}) {
            Probe x = new Probe(2);
            x.throwsAt("ITEM 1 0 1 0", y, NULL, 0);
            x.throwsAt("LAY 0 2 0 1", y, NULL, 0);
            x.throwsAt("SHIFT 0 1 0 2 0", y, NULL, 0);
            x.ask("row(0, 1, 0)");
            x.throwsAt("ITEM 1 0 1 0", y, INDEX, 0);
            x.throwsAt("LAY 0 1 0 1", y, INDEX, 0);
            x.throwsAt("SHIFT 0 1 0 2 0", y, NULL, 0);
            x.throwsAt("SHIFT 0 2 0 1 0", y, NULL, 0);
            x.ask("row(0, 2, 0)");
            x.calls("SHIFT 0 1 0 2 0", y, y == 0 ? 0 : INDEX);
        }
        Probe x = new Probe(2);
        x.calls("ROW 0 1 0", 0, 0);
        x.hasItems(0, 1);
        x.throwsAt("ROW 0 2 0", -1, SIZE, 0);
        x.throwsAt("ROW 0 2 0", 9, ROOM, 0);
    }

    private static void noSuchItem() {
        sentence("INDEX (no such ITEM: VALUE y as 64 bits; of SHIFT x below 0, or above as many as one of them has)");
        for (int n : new int[] {0, 1, 7, 8}) {
            Probe x = new Probe(2);
            x.ask("row(0, 1, " + n + ")");
            for (long y : new long[] {-1, 0, n - 1, n, ROUND, ROUND + n - 1, -ROUND, MIN, MAX}) {
                boolean there = y >= 0 && y < n;
                x.calls("ITEM 1 0 1 0", y, there ? 0 : INDEX);
                x.calls("LAY 0 1 0 1", y, there ? 0 : INDEX);
            }
        }
        int[][] sizes = {{0, 0}, {0, 8}, {8, 0}, {1, 2}, {2, 1}, {8, 8}, {7, 8}, {8, 7}};
        for (int[] n : sizes) {
            Probe x = new Probe(2);
            x.ask("row(0, 1, " + n[0] + ")");
            x.ask("row(0, 2, " + n[1] + ")");
            int most = Math.min(n[0], n[1]);
            for (long many : new long[] {-1, 0, most, most + 1, 9, ROUND, ROUND + most, -ROUND, MIN, MAX}) {
                x.calls("SHIFT 0 1 0 2 0", many, many >= 0 && many <= most ? 0 : INDEX);
            }
        }
    }

    private static void sizeAndRoom() {
        sentence("of ROW 4 SIZE (below 0), 8 ROOM (above 8)");
        long[][] sizes = {{0, 0}, {8, 0}, {-1, SIZE}, {MIN, SIZE}, {-ROUND, SIZE}, {9, ROOM}, {ROUND, ROOM}, {ROUND + 8, ROOM},
            {MAX, ROOM}};
        for (long[] n : sizes) {
            Probe x = new Probe(1).fill(5, 4);
            x.calls("ROW 0 5 0", n[0], (int) n[1]);
            x.has(0, 5, n[1] == 0 ? n[0] : 1);
        }
    }

    /** Each fault of the first HANDLE with each of the other one, of the ROWS and of how many. */
    private static void shiftInOrder() {
        sentence("of SHIFT the first HANDLE and FIELD, then the other one, then what is with ROWS (NULL ahead of INDEX).");
        String[] first = {"0 1", "1 1", "0 5", "0 0"};
        String[] other = {"0 2", "1 2", "0 5", "0 0"};
        int[] faults = {0, NULL, INDEX, CAST};
        int[] many = {1, 3, -1};
        for (int p = 0; p < 4; p++) {
            for (int q = 0; q < 4; q++) {
                for (int rows = 0; rows < 4; rows++) {
                    for (int m : many) {
                        int ofRows = rows != 3 ? NULL : m == 1 ? 0 : INDEX;
                        int want = p != 0 ? faults[p] : q != 0 ? faults[q] : ofRows;
                        shiftOnce("SHIFT " + first[p] + " " + other[q] + " 0", rows, m, want, (p == 0 ? 1 : 0) + (p + q == 0 ? 1 : 0));
                    }
                }
            }
        }
    }

    private static void shiftOnce(String act, int rows, int many, int want, int reads) {
        Probe x = new Probe(2);
        if ((rows & 1) != 0) {
            x.ask("row(0, 1, 2)");
        }
        if ((rows & 2) != 0) {
            x.ask("row(0, 2, 2)");
        }
        x.calls(act, many, want);
        x.due("told(3)", reads + (want == 0 ? 1 : 0));
        x.due("told(4)", want == 0 ? 1 : 0);
        for (int k = 0; k < reads; k++) {
            x.due("touched(" + k + ", 0)", k + 1);
        }
    }

    private static void overByZero() {
        sentence("5 ZERO: OVER by 0.");
        for (long n : new long[] {0, 1, -1, MIN, MAX}) {
            new Probe(0).throwsAt("SET 1 3; OVER 2 0 3", n, ZERO, 1);
        }
        new Probe(0).gives("SET 1 1; OVER 2 0 1; GIVE 2", 6, 6);
        new Probe(0).gives("SET 1 -1; OVER 2 0 1; GIVE 2", 6, -6);
        new Probe(0).gives("SET 1 " + ROUND + "; OVER 2 0 1; GIVE 2", 6, 0);
    }

    private static void own() {
        sentence("6 OWN: THROW.");
        Probe x = new Probe(0);
        x.throwsAt("THROW", 5, OWN, 0);
        x.due("told(7)", 1);
        x.throwsAt("SET 1 1; GO 3; GIVE 0; THROW; GIVE 0", 5, OWN, 3);
        x.due("told(7)", 3);
        x.gives("GIVE 0; THROW", 5, 5);
    }

    /** SET, then two ACTS a round: with VALUE 0 that is 1 and twice VALUE 0 ahead of ACT 3. */
    private static final String ROUNDS = "SET 1 1; LESS 0 0 1; IF 0 1";

    private static void steps() {
        sentence("7 STEPS: the 201st ACT of a CALL is not done.");
        Probe x = new Probe(0);
        x.gives(ROUNDS, 99, 0);
        x.due("told(7)", 199);
        x.gives(ROUNDS + "; GIVE 1", 99, 1);
        x.due("told(7)", 200);
        x.gives(ROUNDS + "; SET 0 5", 99, 0);
        x.due("told(7)", 200);
        x.throwsAt(ROUNDS + "; THROW", 99, OWN, 3);
        x.due("told(7)", 200);
        for (String act : new String[] {"GIVE 1", "THROW", "SET 1 1", "GO 32", "OVER 1 1 3", "GET 1 3 0", "PUT 0 0 1"}) {
            x.throwsAt(ROUNDS + "; SET 0 5; " + act, 99, STEPS, 4);
            x.due("told(7)", 200);
            x.due("told(6)", 0);
            x.touches();
        }
        x.throwsAt("PUT 0 0 0; GO 0", 5, STEPS, 0);
        x.due("told(7)", 200);
        x.touches(0, 1);
        x.due("told(1)", 0);
        x.throwsAt("SET 1 1; GO 0", 5, STEPS, 0);
        x.throwsAt("SET 1 1; SET 1 2; GO 0", 5, STEPS, 2);
    }

    // ---- Terms: what a CALL keeps

    private static void ownChanges() {
        sentence("A CALL sees its own changes");
        Probe x = new Probe(2);
        x.gives("PUT 0 0 0; GET 1 0 0; GIVE 1", MIN, MIN);
        x.gives("TIE 0 3 0; LINK 1 0 3; SAME 1 0 1; GIVE 1", 5, 1);
        x.gives("TIE 0 3 3; LINK 1 0 3; SAME 1 3 1; GIVE 1", 5, 1);
        x.gives("ROW 0 1 0; SET 1 7; SET 2 9; LAY 0 1 1 2; ITEM 3 0 1 1; GIVE 3", 8, 9);
        x.gives("ROW 0 1 0; ITEM 3 0 1 1; GIVE 3", 8, 0);
        x.throwsAt("ROW 0 1 0; ITEM 3 0 1 1", 0, INDEX, 1);
        x.gives("SET 0 1; ROW 0 1 0; ROW 0 2 0; SET 2 6; LAY 0 1 3 2; SHIFT 0 1 0 2 0; ITEM 3 0 2 3; GIVE 3", 8, 6);
        Probe y = new Probe(0, 0);
        y.ask("link(0, 2, 1)");
        y.ask("link(1, 2, 1)");
        y.gives("LINK 1 0 2; PUT 0 0 0; LIKE 2 0 1; GIVE 2", 5, 0);
        y.gives("LINK 1 0 2; PUT 0 0 0; PUT 1 0 0; LIKE 2 0 1; GIVE 2", 6, 1);
    }

    private static void writtenOnce() {
        sentence("they come to the STATE when it has given, LEAF by LEAF in order, each that is not as it was once (it is WRITTEN)");
        Probe x = new Probe(1, 0);
        x.ask("link(0, 3, 1)");
        x.calls("LINK 1 0 3; PUT 1 1 0; ROW 0 5 1; PUT 0 2 0; PUT 1 0 0; PUT 0 2 1; PUT 0 2 0; PUT 0 0 1", 5, 0);
        x.writes(2, 5, 8, 9);
        x.due("told(4)", 5);
        x.due("told(1)", 2);
        x.due("times(2)", 1);
        x.due("times(0)", 0);
        // there and back again
        x.calls("PUT 0 2 1; PUT 0 2 0; TIE 0 3 3; LINK 1 0 4; TIE 0 4 0; TIE 0 4 1", 5, 0);
        x.due("told(5)", 1);
        x.due("written(0)", 3);
        Probe y = new Probe(2).fill(1, 5, 6);
        y.calls("LAY 0 1 1 0; SET 0 5; LAY 0 1 1 0", 7, 0);
        y.writes();
        y.calls("SET 0 2; ROW 0 1 0; SET 0 5; LAY 0 1 1 0; SET 1 1; SET 0 6; LAY 0 1 1 0", 7, 0);
        y.writes();
        y.calls("ROW 0 1 0", 2, 0);
        y.writes(1);
        y.calls("ROW 0 1 0", 2, 0);
        y.writes();
        y.calls("ROW 0 2 0", 0, 0);
        y.writes(2);
        mostWritten();
    }

    /** Four LEAVES of each of 22 OBJECTS in 198 ACTS, from the last OBJECT to the first. */
    private static void mostWritten() {
        Probe x = new Probe(ofOneClass(24, 1));
        for (int o = 1; o < 24; o++) {
            x.ask("link(" + o + ", 4, " + (o - 1) + ")");
        }
        x.acts("SAME 3 0 0; PUT 0 1 3; PUT 0 0 3; ROW 0 5 3; TIE 0 3 0; LINK 0 0 4; SAME 2 0 1; LESS 2 3 2; IF 2 0");
        x.due("all(21, 0, 0)", 1);
        x.due("call(21, 0, 0)", 0);
        x.due("told(7)", 22 * 9);
        x.due("told(6)", 22);
        x.due("told(5)", 88);
        for (int k = 0; k < 88; k++) {
            x.due("written(" + k + ")", 8 * (k / 4) + new int[] {0, 1, 3, 5}[k % 4]);
        }
        x.due("written(88)", NONE);
        x.due("told(1)", 24);
    }

    private static void throwKeepsNothing() {
        sentence("when it throws none does.");
        String[] ends = {"", "GET 1 3 0", "GET 1 0 1", "GET 1 0 7", "SET 1 -1; ROW 0 1 1", "OVER 1 1 3", "THROW", "GO 0",
            "SET 1 9; ROW 0 1 1"};
        for (int code = 1; code < ends.length; code++) {
            Probe x = new Probe(2).fill(2, 4);
            x.calls("PUT 0 0 0; TIE 0 3 0; SET 2 1; ROW 0 1 2; SET 3 0; LAY 0 2 3 0; " + ends[code], 77, code);
            x.writes();
            x.due("told(4)", 4);
            x.due("told(1)", 2);
            x.has(0, 0, 0);
            x.has(0, 1, NONE);
            x.hasItems(0, 2, 4);
            x.has(0, 3, NONE);
            x.due("times(0)", 0);
            x.due("times(2)", 1);
            x.due("gave()", 0);
            x.gives("GET 1 0 0; GIVE 1", 5, 0);
        }
    }

    private static void loadedWhenAsked() {
        sentence("An OBJECT is LOADED in a CALL as soon as a HANDLE that is it is asked for a FIELD (also one that there is not)");
        String[] asking = {"GET 1 0 0", "PUT 0 0 0", "LINK 1 0 2", "TIE 0 2 0", "GET 1 0 7", "PUT 0 3 0", "LINK 1 0 3",
            "TIE 0 7 0", "ITEM 1 0 7 0", "LAY 0 7 0 0", "ROW 0 7 0", "SHIFT 0 7 1 0 0", "ITEM 1 0 0 0", "LAY 0 2 0 0",
            "ROW 0 1 0", "SHIFT 0 0 1 0 0"};
        for (String act : asking) {
            Probe x = new Probe(0, 0);
            x.acts(act);
            x.ask("call(0, 0, 0)");
            x.due("loaded(0)", 1);
            x.due("loaded(1)", 0);
            x.due("told(6)", 1);
            x.due("told(2)", 1);
        }
        String[] silent = {"SET 0 1", "ADD 0 0 0", "SAME 1 0 1", "SAME 1 0 0", "GIVE 0", "THROW", "GO 0", "IF 0 1", "GET 0 1 0",
            "SHIFT 1 0 0 0 0", "OVER 1 1 1"};
        for (String act : silent) {
            Probe x = new Probe(0, 0);
            x.acts(act);
            x.ask("call(0, 0, 0)");
            x.due("loaded(0)", 0);
            x.due("told(6)", 0);
            x.due("told(2)", 0);
        }
        Probe x = new Probe(0, 0);
        x.ask("link(0, 2, 1)");
        x.calls("LINK 1 0 2; TIE 0 2 1; SAME 1 0 1", 0, 0);
        x.due("loaded(0)", 1);
        x.due("loaded(1)", 0);
        x.calls("LINK 1 0 2; GET 1 1 0", 0, 0);
        x.due("loaded(1)", 1);
        x.due("told(6)", 2);
    }

    private static void loadedByLike() {
        sentence("by LIKE only if both are OBJECTS of one CLASS and not the same (the first one, then the other one).");
        Probe x = new Probe(1, 0, 0, 2);
        x.gives("LIKE 1 0 3; GIVE 1", 0, 0);
        x.due("told(6)", 0);
        x.gives("LIKE 1 0 0; GIVE 1", 0, 1);
        x.due("told(6)", 0);
        x.gives("LIKE 1 1 2; GIVE 1", 0, 1);
        x.due("told(6)", 0);
        String[] links = {"link(0, 4, 3)", "link(0, 4, 1)", "link(0, 4, 2)"};
        x.ask("link(0, 3, 1)");
        for (int k = 0; k < 3; k++) {
            x.ask(links[k]);
            x.calls(LIKE, 0, 0);
            x.due("loaded(1)", k == 2 ? 1 : 0);
            x.due("loaded(2)", k == 2 ? 1 : 0);
            x.due("loaded(3)", 0);
            x.due("told(6)", k == 2 ? 3 : 1);
        }
        x.calls(LIKE.replace("1 2;", "2 1;"), 0, 0);
        x.due("touched(2, 0)", 16);
        x.due("touched(3, 0)", 8);
    }

    private static void touchedOnce() {
        sentence("TOUCHED: each LEAF that is read, once, and each that is changed, once, in the order in which that came first.");
        Probe x = new Probe(0, 0);
        x.ask("link(0, 2, 1)");
        x.calls("GET 1 0 1; PUT 0 1 0; GET 1 0 1; PUT 0 1 1; LINK 1 0 2; PUT 1 0 0; GET 1 1 0; PUT 1 0 0; GET 1 0 0; TIE 0 2 0",
            5, 0);
        x.touches(1, 0, 1, 1, 2, 0, 8, 1, 8, 0, 0, 0, 2, 1);
        // of the latest CALL alone
        x.calls("GET 1 0 0", 5, 0);
        x.touches(0, 0);
        x.due("call(0, 1, 5)", 0);
        x.touches();
        mostTouched();
    }

    /** 216 in one CALL: more than there are LEAVES, as a LEAF may be read and changed. */
    private static void mostTouched() {
        Probe x = new Probe(ofOneClass(24, 1));
        for (int o = 0; o < 23; o++) {
            x.ask("link(" + o + ", 4, " + (o + 1) + ")");
        }
        x.acts("LINK 1 0 4; LIKE 2 0 1; PUT 0 0 0; PUT 0 1 0; PUT 0 2 0; TIE 0 3 0; LINK 0 0 4; GO 0");
        x.due("call(0, 0, 5)", NULL);
        x.due("where()", 0);
        x.due("told(7)", 8 * 24 + 1);
        x.due("told(3)", 216);
        x.due("told(4)", 96);
        x.due("touched(0, 0)", 4);
        x.due("touched(1, 0)", 0);
        x.due("touched(2, 0)", 8);
        x.due("touched(215, 0)", 8 * 23 + 3);
        x.due("touched(215, 1)", 1);
        x.due("touched(216, 0)", NONE);
        int changed = 0;
        for (int k = 0; k < 216; k++) {
            changed += (int) x.ask("touched(" + k + ", 1)");
        }
        check("changed", changed, 96);
    }

    private static void readWhenOfTheSort() {
        sentence("Read is a LEAF by GET, LINK, ITEM, LAY, SHIFT (both), LIKE (of each FIELD that is looked at the first one's, "
            + "then the other one's), when its FIELD is of the sort (whatever comes of its ROW)");
        String[] sorts = {"GET 1 0 ?", "LINK 1 0 ?", "ITEM 1 0 ? 0", "LAY 0 ? 0 0"};
        for (int k = 0; k < sorts.length; k++) {
            for (int f = 0; f < 8; f++) {
                Probe x = new Probe(2);
                x.acts(sorts[k].replace("?", "" + f));
                x.ask("call(0, 0, 0)");
                boolean read = f < 4 && "NRRL".charAt(f) == "NLRR".charAt(k);
                x.touches(read ? new int[] {f, 0} : new int[0]);
            }
        }
        Probe x = new Probe(2);
        x.throwsAt("SHIFT 0 2 0 1 0", 0, NULL, 0);
        x.touches(2, 0, 1, 0);
        x.ask("row(0, 1, 1)");
        x.throwsAt("ITEM 1 0 1 0", 1, INDEX, 0);
        x.touches(1, 0);
        x.throwsAt("LAY 0 1 0 0", 1, INDEX, 0);
        x.touches(1, 0);
        x.ask("row(0, 2, 1)");
        x.throwsAt("SHIFT 0 2 0 1 0", 2, INDEX, 0);
        x.touches(2, 0, 1, 0);
        x.throwsAt("SHIFT 0 2 0 0 0", 1, CAST, 0);
        x.touches(2, 0);
        x.throwsAt("SHIFT 0 3 0 1 0", 1, CAST, 0);
        x.touches();
        Probe y = new Probe(0, 0);
        y.ask("link(0, 2, 1)");
        y.gives("LINK 1 0 2; LIKE 1 1 0; GIVE 1", 0, 0);
        y.touches(2, 0, 8, 0, 0, 0, 9, 0, 1, 0, 10, 0);
    }

    private static void changedWhenNothingIsThrown() {
        sentence("changed by PUT, TIE, LAY, ROW, SHIFT (the other one) when they throw nothing (also if it is as it was).");
        Probe x = new Probe(2);
        x.calls("PUT 0 0 1; TIE 0 3 3", 0, 0);
        x.touches(0, 1, 3, 1);
        x.writes();
        x.ask("row(0, 1, 1)");
        x.ask("row(0, 2, 1)");
        x.calls("ROW 0 1 0", 1, 0);
        x.touches(1, 1);
        x.writes();
        x.calls("LAY 0 1 0 0", 0, 0);
        x.touches(1, 0, 1, 1);
        x.writes();
        x.calls("SHIFT 0 1 0 2 0", 0, 0);
        x.touches(1, 0, 2, 0, 2, 1);
        x.writes();
        String[] thrown = {"PUT 0 1 0", "PUT 0 7 0", "PUT 1 0 0", "TIE 0 0 0", "TIE 0 7 0", "ROW 0 1 0", "ROW 0 0 0", "LAY 0 1 0 0",
            "SHIFT 0 1 0 2 0"};
        for (String act : thrown) {
            Probe y = new Probe(2);
            y.ask("row(0, 1, 1)");
            y.ask("row(0, 2, 1)");
            y.acts(act);
            check(act + " throws", y.ask("call(0, 0, 9)") > 0 ? 1 : 0, 1);
            y.due("told(4)", 0);
        }
    }

    private static void readAheadOfThat() {
        sentence("LAY, SHIFT read ahead of that.");
        Probe x = new Probe(2).fill(1, 5).fill(2, 6);
        x.calls("LAY 0 1 1 0", 9, 0);
        x.touches(1, 0, 1, 1);
        x.calls("SHIFT 0 1 0 1 0", 1, 0);
        x.touches(1, 0, 1, 1);
        x.calls("SHIFT 0 2 0 1 0", 1, 0);
        x.touches(2, 0, 1, 0, 1, 1);
        x.calls("SET 2 1; ROW 0 1 2; LAY 0 1 1 0", 9, 0);
        x.touches(1, 1, 1, 0);
    }

    private static void cachedForTheHeight() {
        sentence("CACHED are OBJECTS for the HEIGHT as it is: those that were LOADED in a CALL or hinted at it");
        Probe x = new Probe(0, 0, 0);
        x.due("cached(0)", 0);
        x.calls("GET 1 0 0", 0, 0);
        x.due("cached(0)", 1);
        x.due("cached(1)", 0);
        x.due("hint(1)", 1);
        x.due("cached(1)", 1);
        x.due("cached(2)", 0);
        x.due("call(2, 1, 0)", 0);
        x.due("cached(2)", 0);
        x.due("all(2, 0, 0)", 1);
        x.due("cached(2)", 0);
        x.due("call(1, 1, 0)", 0);
        x.due("cached(0)", 1);
        x.due("cached(3)", BAD);
        Probe y = new Probe(ofOneClass(24, 0));
        y.due("hint(23)", 1);
        for (int o = 0; o < 24; o++) {
            y.due("cached(" + o + ")", o == 23 ? 1 : 0);
        }
    }

    private static void cachedNoMore() {
        sentence("as HEIGHT changes none is.");
        String[] same = {"number(0, 0, 0)", "link(0, 3, NONE)", "row(0, 1, NONE)", "number(0, 1, 5)", "call(0, 0, 0)",
            "call(0, 2, 5)", "all(0, 0, 5)", "object(0)", "clear(1)", "act(0, 17, 0, 0, 0, 0, 0)"};
        String[] more = {"number(0, 0, 5)", "link(0, 3, 0)", "row(0, 1, 0)", "call(0, 0, 5)", "number(1, 0, 5)"};
        for (int k = 0; k < same.length + more.length; k++) {
            Probe x = new Probe(2, 2).acts("PUT 0 0 0");
            x.ask("act(2, 5, 0, 0, 0, 0, 0)");
            x.ask("act(2, 17, 0, 0, 0, 0, 0)");
            x.ask("hint(0)");
            x.ask("hint(1)");
            x.ask(k < same.length ? same[k] : more[k - same.length]);
            x.due("cached(0)", k < same.length ? 1 : 0);
            x.due("cached(1)", k < same.length ? 1 : 0);
            x.due("told(1)", k < same.length ? 0 : 1);
        }
        Probe full = atHeight(40);
        full.due("hint(0)", 1);
        full.due("number(0, 0, 41)", FULL);
        full.due("cached(0)", 1);
    }

    private static void fetches() {
        sentence("LOADING an OBJECT that is not CACHED is a FETCH.");
        Probe x = new Probe(0, 0);
        x.ask("link(0, 2, 1)");
        x.calls("GET 1 0 0; GET 2 0 1", 0, 0);
        x.due("told(2)", 1);
        x.due("call(0, 0, 0)", 0);
        x.due("told(2)", 1);
        x.calls("LINK 1 0 2; GET 1 1 0", 0, 0);
        x.due("told(2)", 2);
        x.due("hint(1)", 0);
        x.due("told(2)", 2);
        x.ask("number(0, 0, 3)");
        x.due("told(2)", 2);
        x.due("hint(1)", 1);
        x.due("told(2)", 3);
        x.due("call(0, 0, 0)", 0);
        x.due("told(2)", 4);
        x.due("told(6)", 2);
        x.throwsAt("PUT 0 0 0; THROW", 9, OWN, 1);
        x.due("told(2)", 4);
    }

    private static void cachedFromWhenLoaded() {
        sentence("(A CALL's OBJECTS are CACHED from when they are LOADED; those of one that changes the HEIGHT at its end no more.)");
        Probe x = new Probe(0);
        // within the CALL a second asking is no FETCH
        x.calls("GET 1 0 0; GET 1 0 1; PUT 0 0 0", 5, 0);
        x.due("told(2)", 1);
        x.due("told(1)", 1);
        x.due("loaded(0)", 1);
        x.due("cached(0)", 0);
        x.due("call(0, 0, 5)", 0);
        x.due("told(2)", 2);
        x.due("told(1)", 1);
        x.due("cached(0)", 1);
        x.throwsAt("PUT 0 0 0; THROW", 6, OWN, 1);
        x.due("cached(0)", 1);
        x.ask("number(0, 1, 4)");
        x.due("call(0, 0, 6)", OWN);
        x.due("told(2)", 3);
        x.due("cached(0)", 1);
    }

    // ---- Promises

    private static void newObject() {
        sentence("No OBJECTS, BEHAVIOURS without ACTS, HEIGHT 0.");
        Probe x = new Probe();
        for (int what = 0; what <= 8; what++) {
            x.due("told(" + what + ")", 0);
        }
        for (int behaviour = 0; behaviour <= 5; behaviour++) {
            x.due("clear(" + behaviour + ")", 0);
        }
        x.due("loaded(0)", BAD);
        x.due("cached(0)", BAD);
        x.due("hint(0)", BAD);
        x.due("times(0)", BAD);
        x.due("view(0, 0, 0, NONE)", BAD);
        x.due("call(0, 0, 0)", BAD);
        x.due("all(0, 0, 0)", BAD);
        x.due("number(0, 0, 0)", BAD);
        x.due("link(0, 2, NONE)", BAD);
        x.due("row(0, 5, NONE)", BAD);
        x.due("object(0)", 0);
        // two objects of LazyState have nothing in common
        Probe y = new Probe();
        x.ask("number(0, 0, 5)");
        y.due("told(0)", 0);
        y.due("told(1)", 0);
    }

    private static void object() {
        sentence("An OBJECT more of a CLASS: its number (HEIGHT stays). BAD; FULL.");
        Probe x = atHeight(40);
        x.due("object(-1)", BAD);
        x.due("object(3)", BAD);
        x.due("object(IMIN)", BAD);
        x.due("object(IMAX)", BAD);
        for (int o = 1; o < 24; o++) {
            x.due("object(" + (o % 2 == 0 ? 2 : 0) + ")", o);
        }
        x.due("told(1)", 40);
        x.due("object(0)", FULL);
        x.due("object(2)", FULL);
        x.due("object(3)", BAD);
        x.due("told(0)", 24);
        x.due("view(23, 2, 40, NONE)", NONE);
        x.due("view(23, 3, 40, NONE)", BAD);
    }

    private static void number() {
        sentence("A NUMBER becomes v: HEIGHT. BAD: also another sort; FULL: HEIGHT is 40 and it would change.");
        Probe x = atHeight(39);
        x.due("number(0, 0, 39)", 39);
        x.due("number(0, 1, 1)", BAD);
        x.due("number(0, 3, 1)", BAD);
        x.due("number(0, 4, 1)", BAD);
        x.due("number(0, -1, 1)", BAD);
        x.due("number(0, 8, 1)", BAD);
        x.due("number(1, 0, 1)", BAD);
        x.due("number(-1, 0, 1)", BAD);
        x.due("number(NONE, 0, 1)", BAD);
        x.due("number(IMAX, IMAX, 1)", BAD);
        x.due("number(0, 0, MIN)", 40);
        x.due("number(0, 0, MIN)", 40);
        x.due("number(0, 0, MAX)", FULL);
        x.due("number(0, 0, 0)", FULL);
        x.due("number(0, 1, 1)", BAD);
        x.due("number(1, 0, 1)", BAD);
        x.has(0, 0, MIN);
        // a NUMBER may look like a refusal
        Probe y = new Probe(0);
        y.due("number(0, 0, -1)", 1);
        y.has(0, 0, -1);
        y.due("status()", 0);
    }

    private static void link() {
        sentence("A LINK becomes an OBJECT, or NONE: HEIGHT. BAD; FULL likewise.");
        Probe x = atHeight(38);
        x.due("link(0, 3, NONE)", 38);
        x.due("link(0, 3, 1)", BAD);
        x.due("link(0, 3, 0)", 39);
        x.due("link(0, 3, 0)", 39);
        x.due("link(0, 0, 0)", BAD);
        x.due("link(0, 1, NONE)", BAD);
        x.due("link(0, 4, 0)", BAD);
        x.due("link(0, -1, 0)", BAD);
        x.due("link(1, 3, 0)", BAD);
        x.due("link(-1, 3, 0)", BAD);
        x.due("link(0, 3, -1)", BAD);
        x.due("link(0, 3, -2)", BAD);
        x.due("link(0, 3, -4)", BAD);
        x.due("link(0, 3, NONE)", 40);
        x.due("link(0, 3, NONE)", 40);
        x.due("link(0, 3, 0)", FULL);
        x.due("link(0, 3, 1)", BAD);
        x.due("link(0, 0, 0)", BAD);
        x.has(0, 3, NONE);
    }

    private static void row() {
        sentence("A ROW becomes one of n ITEMS (0 .. 8), all 0, or NONE (n = NONE): HEIGHT. BAD; FULL likewise.");
        Probe x = atHeight(34).fill(2, 7, 8);
        x.due("row(0, 2, 2)", 37);
        x.hasItems(0, 2, 0, 0);
        x.due("row(0, 2, 2)", 37);
        x.due("row(0, 1, NONE)", 37);
        x.due("row(0, 1, 0)", 38);
        x.due("row(0, 1, 8)", 39);
        x.due("row(0, 1, 9)", BAD);
        x.due("row(0, 1, -1)", BAD);
        x.due("row(0, 1, -2)", BAD);
        x.due("row(0, 1, -4)", BAD);
        x.due("row(0, 0, 1)", BAD);
        x.due("row(0, 3, 1)", BAD);
        x.due("row(0, 4, 1)", BAD);
        x.due("row(0, -1, 1)", BAD);
        x.due("row(1, 1, 1)", BAD);
        x.due("row(-1, 1, 1)", BAD);
        x.due("row(0, 1, NONE)", 40);
        x.due("row(0, 1, NONE)", 40);
        x.due("row(0, 2, 2)", 40);
        x.due("row(0, 1, 0)", FULL);
        x.due("row(0, 2, 3)", FULL);
        x.due("row(0, 2, NONE)", FULL);
        x.due("row(0, 1, 9)", BAD);
        // at 40 as many ITEMS, but not all 0, would be a change
        for (int last = 0; last < 2; last++) {
            Probe y = atHeight(38).fill(2, 1 - last, last);
            y.due("told(1)", 40);
            y.due("row(0, 2, 2)", FULL);
            y.hasItems(0, 2, 1 - last, last);
        }
    }

    private static void act() {
        sentence("An ACT behind the others of a BEHAVIOUR: its number. BAD: also a number that its kind names and is not as told; FULL.");
        Probe x = new Probe(0);
        x.due("act(0, -1, 0, 0, 0, 0, 0)", BAD);
        x.due("act(0, 18, 0, 0, 0, 0, 0)", BAD);
        x.due("act(0, IMIN, 0, 0, 0, 0, 0)", BAD);
        x.due("act(0, IMAX, 0, 0, 0, 0, 0)", BAD);
        x.due("act(-1, 17, 0, 0, 0, 0, 0)", BAD);
        x.due("act(6, 17, 0, 0, 0, 0, 0)", BAD);
        for (int k = 0; k < 32; k++) {
            x.due("act(5, " + (k % 17 == 16 ? 0 : k % 17) + ", 0, 0, 0, 0, 0)", k);
        }
        x.due("act(5, 16, 0, 0, 0, 0, 0)", FULL);
        x.due("act(5, 16, 4, 0, 0, 0, 0)", BAD);
        x.due("act(5, 18, 0, 0, 0, 0, 0)", BAD);
        x.due("act(0, 16, 0, 0, 0, 0, 0)", 0);
        x.due("act(0, 16, 3, 0, 0, 0, 0)", 1);
        x.due("act(0, 16, 4, 0, 0, 0, 0)", BAD);
        x.due("clear(0)", 2);
        x.due("clear(5)", 32);
        x.due("act(5, 16, 0, 0, 0, 0, 0)", 0);
    }

    private static void clear() {
        sentence("A BEHAVIOUR has no ACTS any more: how many it had. BAD.");
        Probe x = new Probe(0);
        x.acts("SET 1 1; THROW");
        x.ask("act(1, 17, 0, 0, 0, 0, 0)");
        x.due("clear(-1)", BAD);
        x.due("clear(6)", BAD);
        x.due("clear(IMIN)", BAD);
        x.due("clear(IMAX)", BAD);
        x.due("call(0, 0, 5)", OWN);
        x.due("clear(0)", 2);
        x.due("where()", 1);
        x.due("clear(0)", 0);
        x.due("call(0, 0, 5)", 0);
        x.due("told(7)", 0);
        x.due("act(0, 16, 0, 0, 0, 0, 0)", 0);
        x.due("call(0, 0, 5)", 0);
        x.due("gave()", 5);
        x.due("told(7)", 1);
        x.due("call(0, 1, 5)", OWN);
    }

    private static void call() {
        sentence("A CALL of an OBJECT by a BEHAVIOUR with VALUE 0: 0 it gave, else the THROW. BAD; FULL: HEIGHT is 40 "
            + "(whatever it would do).");
        String[] whatever = {"PUT 0 0 0", "GIVE 0", "THROW", "GET 1 0 0", "GO 0", "PUT 0 0 3; PUT 0 0 0"};
        for (String acts : whatever) {
            Probe x = atHeight(39).acts("PUT 0 0 0; GIVE 0");
            x.due("call(0, 0, 40)", 0);
            x.due("told(1)", 40);
            x.acts(acts);
            x.due("call(0, 0, 40)", FULL);
            x.due("call(0, 5, 40)", FULL);
            x.due("call(1, 0, 40)", BAD);
            x.due("call(0, 6, 40)", BAD);
            x.due("gave()", 40);
            x.due("told(8)", 1);
            x.writes(0);
        }
        Probe x = new Probe(0, 0).acts("GIVE 0");
        x.due("call(1, 0, 5)", 0);
        x.due("call(2, 0, 6)", BAD);
        x.due("call(-1, 0, 6)", BAD);
        x.due("call(NONE, 0, 6)", BAD);
        x.due("call(0, 6, 6)", BAD);
        x.due("call(0, -1, 6)", BAD);
        x.due("gave()", 5);
        x.due("told(8)", 1);
    }

    private static void gave() {
        sentence("What the latest CALL gave; 0: it threw, or there was none.");
        Probe x = new Probe(0);
        x.due("gave()", 0);
        x.gives("GIVE 0", MIN, MIN);
        x.ask("call(1, 0, 5)");
        x.ask("all(0, 0, 5)");
        x.ask("number(0, 0, 5)");
        x.ask("clear(0)");
        x.due("gave()", MIN);
        x.calls("GIVE 0", -1, 0);
        check("gave -1", x.ask("gave()"), -1);
        x.throwsAt("THROW", 7, OWN, 0);
        x.due("gave()", 0);
        x.gives("GIVE 0", MAX, MAX);
        x.due("call(0, 1, 7)", 0);
        x.due("gave()", 0);
    }

    private static void where() {
        sentence("At which ACT the latest CALL threw; NONE.");
        Probe x = new Probe(0);
        x.due("where()", NONE);
        x.throwsAt("THROW", 0, OWN, 0);
        x.ask("call(0, 6, 0)");
        x.ask("all(0, 1, 0)");
        x.ask("clear(0)");
        x.due("where()", 0);
        x.due("call(0, 0, 0)", 0);
        x.due("where()", NONE);
        for (int k = 0; k < 31; k++) {
            x.ask("act(3, 0, 0, 0, 0, 0, 0)");
        }
        x.due("act(3, 3, 0, 0, 1, 0, 0)", 31);
        x.due("call(0, 3, 0)", ZERO);
        x.due("where()", 31);
    }

    private static void touched() {
        sentence("Of the latest CALL's k-th TOUCHED: what = 0 its LEAF, 1 whether it is one that was changed (1, 0). "
            + "NONE: not so many. BAD: what, k below 0.");
        Probe x = new Probe(0);
        x.due("touched(0, 0)", NONE);
        x.due("touched(0, 1)", NONE);
        x.due("touched(0, 2)", BAD);
        x.due("touched(-1, 0)", BAD);
        x.calls("GET 1 0 1; PUT 0 0 0", 5, 0);
        x.due("touched(0, 0)", 1);
        x.due("touched(0, 1)", 0);
        x.due("touched(1, 0)", 0);
        x.due("touched(1, 1)", 1);
        x.due("touched(2, 0)", NONE);
        x.due("touched(2, 1)", NONE);
        x.due("touched(IMAX, 1)", NONE);
        x.due("touched(1, 2)", BAD);
        x.due("touched(1, -1)", BAD);
        x.due("touched(2, 2)", BAD);
        x.due("touched(IMAX, -1)", BAD);
        x.due("touched(-1, 0)", BAD);
        x.due("touched(-1, 1)", BAD);
        x.due("touched(IMIN, 0)", BAD);
        x.due("touched(-1, 2)", BAD);
        x.ask("all(0, 1, 0)");
        x.ask("call(0, 6, 0)");
        x.touches(1, 0, 0, 1);
        x.due("call(0, 1, 0)", 0);
        x.due("touched(0, 0)", NONE);
    }

    private static void written() {
        sentence("The k-th LEAF that the latest CALL WROTE. NONE: not so many. BAD: k below 0.");
        Probe x = new Probe(0);
        x.due("written(0)", NONE);
        x.due("written(-1)", BAD);
        x.calls("PUT 0 1 0; PUT 0 0 0", 5, 0);
        x.due("written(0)", 0);
        x.due("written(1)", 1);
        x.due("written(2)", NONE);
        x.due("written(IMAX)", NONE);
        x.due("written(-1)", BAD);
        x.due("written(NONE)", BAD);
        x.due("written(IMIN)", BAD);
        x.ask("number(0, 0, 8)");
        x.ask("all(0, 0, 9)");
        x.ask("call(0, 6, 9)");
        x.writes(0, 1);
        x.throwsAt("PUT 0 1 1; THROW", 5, OWN, 1);
        x.writes();
        x.due("call(0, 1, 0)", 0);
        x.writes();
    }

    private static void loaded() {
        sentence("Whether an OBJECT was LOADED in the latest CALL (1, 0). BAD.");
        Probe x = new Probe(ofOneClass(24, 0));
        x.due("loaded(0)", 0);
        x.due("loaded(24)", BAD);
        x.acts("GET 1 0 0");
        x.due("call(23, 0, 0)", 0);
        x.due("loaded(23)", 1);
        x.due("loaded(22)", 0);
        x.due("loaded(24)", BAD);
        x.due("loaded(-1)", BAD);
        x.due("loaded(NONE)", BAD);
        x.due("loaded(32)", BAD);
        x.due("loaded(IMAX)", BAD);
        x.due("loaded(IMIN)", BAD);
        x.due("call(0, 0, 0)", 0);
        x.due("loaded(0)", 1);
        x.due("loaded(23)", 0);
        x.ask("hint(5)");
        x.ask("all(6, 0, 0)");
        x.ask("call(7, 6, 0)");
        x.ask("number(0, 0, 5)");
        x.due("loaded(0)", 1);
        x.due("told(6)", 1);
        Probe y = new Probe(0);
        y.calls("GET 1 0 0", 0, 0);
        y.due("loaded(1)", BAD);
        y.due("object(0)", 1);
        y.due("loaded(1)", 0);
    }

    private static void cached() {
        sentence("Whether an OBJECT is CACHED now (1, 0). BAD.");
        Probe x = new Probe(0, 0);
        x.due("cached(0)", 0);
        x.due("cached(2)", BAD);
        x.due("cached(-1)", BAD);
        x.due("cached(NONE)", BAD);
        x.due("cached(32)", BAD);
        x.due("cached(IMAX)", BAD);
        x.due("cached(IMIN)", BAD);
        x.due("hint(1)", 1);
        x.due("cached(1)", 1);
        x.due("cached(0)", 0);
        x.due("object(0)", 2);
        x.due("cached(2)", 0);
        x.due("cached(1)", 1);
        x.due("number(0, 0, 1)", 1);
        x.due("cached(1)", 0);
        // of an OBJECT it is told now, whatever the latest CALL loaded
        x.calls("GET 1 0 0", 0, 0);
        x.due("number(0, 0, 2)", 2);
        x.due("loaded(0)", 1);
        x.due("cached(0)", 0);
    }

    private static void hint() {
        sentence("An OBJECT is CACHED from now on: 1, if that was a FETCH, else 0. BAD.");
        Probe x = new Probe(0, 0);
        x.due("hint(2)", BAD);
        x.due("hint(-1)", BAD);
        x.due("hint(NONE)", BAD);
        x.due("hint(32)", BAD);
        x.due("hint(IMAX)", BAD);
        x.due("hint(IMIN)", BAD);
        x.due("told(2)", 0);
        x.due("hint(1)", 1);
        x.due("told(2)", 1);
        x.due("hint(1)", 0);
        x.due("told(2)", 1);
        x.due("cached(1)", 1);
        x.calls("GET 1 0 0", 0, 0);
        x.due("hint(0)", 0);
        x.due("told(2)", 2);
        x.due("told(8)", 1);
        x.due("number(0, 0, 1)", 1);
        x.due("hint(0)", 1);
        x.due("told(2)", 3);
        Probe full = atHeight(40);
        full.due("hint(0)", 1);
        full.due("hint(0)", 0);
        full.due("hint(1)", BAD);
    }

    private static void times() {
        sentence("How often CALLS WROTE a LEAF. BAD: no such LEAF.");
        Probe x = new Probe(0, 1, 2).acts("PUT 0 0 0; PUT 0 0 3; PUT 0 0 0");
        int[] fields = {3, 6, 4};
        for (int leaf = -2; leaf < 34; leaf++) {
            boolean there = leaf >= 0 && leaf < 24 && leaf % 8 < fields[leaf / 8];
            x.due("times(" + leaf + ")", there ? 0 : BAD);
        }
        x.due("times(IMAX)", BAD);
        x.due("times(IMIN)", BAD);
        for (int k = 1; k <= 40; k++) {
            x.due("call(1, 0, " + k + ")", 0);
            x.due("times(8)", k);
        }
        x.due("call(1, 0, 41)", FULL);
        x.due("times(8)", 40);
        x.due("times(0)", 0);
        x.due("times(9)", 0);
        Probe y = new Probe(0).acts("PUT 0 0 0");
        y.ask("number(0, 0, 5)");
        y.due("times(0)", 0);
        y.due("call(0, 0, 5)", 0);
        y.due("times(0)", 0);
        y.due("all(0, 0, 6)", 1);
        y.due("times(0)", 0);
        y.throwsAt("PUT 0 0 0; THROW", 6, OWN, 1);
        y.due("times(0)", 0);
    }

    private static void all() {
        sentence("Whether a CALL, made now with all OBJECTS LOADED ahead (and nothing of it kept), would end likewise, give the same, "
            + "touch the same in the same order and change the same as without: 1, 0. BAD; FULL: as call().");
        String[] acts = {"GIVE 0", "THROW", "GO 0", "LINK 1 0 3; PUT 1 0 0; GET 2 0 0; GIVE 2", "GET 1 3 0", "GET 1 0 7", "GET 1 0 5",
            "ROW 0 5 0; LAY 0 5 1 0; GIVE 0", "PUT 0 0 0; OVER 1 0 3", "LINK 1 0 3; LIKE 1 0 1; GIVE 1",
            "SET 1 -1; ROW 0 5 1", "SET 1 9; ROW 0 5 1"};
        for (String text : acts) {
            Probe x = new Probe(1, 1);
            x.ask("link(0, 3, 1)");
            x.calls("PUT 0 1 0; GIVE 0", 4, 0);
            x.ask("hint(1)");
            x.acts(text);
            x.changesNothing("all(0, 0, 6)");
            x.due("all(0, 0, 6)", 1);
            x.changesNothing("all(1, 0, 6)");
            x.due("all(1, 0, 6)", 1);
        }
        Probe x = new Probe(0);
        x.due("all(0, 5, 0)", 1);
        x.due("all(0, 6, 0)", BAD);
        x.due("all(0, -1, 0)", BAD);
        x.due("all(1, 0, 0)", BAD);
        x.due("all(-1, 0, 0)", BAD);
        x.due("all(NONE, 0, 0)", BAD);
        Probe full = atHeight(39).acts("GIVE 0");
        full.due("all(0, 0, 5)", 1);
        full.due("number(0, 0, 40)", 40);
        full.due("all(0, 0, 5)", FULL);
        full.due("all(0, 1, 5)", FULL);
        full.due("all(1, 0, 5)", BAD);
        full.due("all(0, 6, 5)", BAD);
    }

    private static void view() {
        sentence("A FIELD at a HEIGHT (0 up to now): i = NONE: the NUMBER; the LINK (NONE); of a ROW how many ITEMS (NONE); "
            + "i from 0 on: ITEM i of a ROW. BAD: also i of what is no ROW, no such ITEM");
        Probe x = new Probe(2);
        x.due("view(0, 0, 0, NONE)", 0);
        x.due("view(0, 0, 1, NONE)", BAD);
        x.due("view(0, 0, -1, NONE)", BAD);
        x.due("view(0, 1, 0, 0)", BAD);
        x.due("number(0, 0, -3)", 1);
        x.fill(1, 7, -1).fill(2, 1, 2, 3, 4, 5, 6, 7, -3);
        x.due("view(0, 0, 5, NONE)", -3);
        x.due("view(0, 3, 5, NONE)", NONE);
        x.due("view(0, 1, 1, NONE)", NONE);
        x.due("view(0, 1, 2, NONE)", 2);
        x.due("view(0, 1, 2, 0)", 0);
        x.due("view(0, 1, 3, 0)", 7);
        check("an ITEM of -1", x.ask("view(0, 1, 3, 1)"), -1);
        x.due("status()", 0);
        x.due("view(0, 2, 5, 7)", -3);
        x.due("status()", 0);
        String[] wrongOnes = {"view(0, 1, 3, 2)", "view(0, 1, 3, -1)", "view(0, 1, 3, -2)", "view(0, 1, 3, -4)", "view(0, 2, 5, 8)",
            "view(0, 2, 5, IMAX)", "view(0, 2, 5, IMIN)", "view(0, 1, 1, 0)", "view(0, 0, 5, 0)", "view(0, 0, 5, -1)",
            "view(0, 3, 5, 0)", "view(0, 3, 5, -2)", "view(0, 4, 5, NONE)", "view(0, -1, 5, NONE)", "view(0, 8, 5, NONE)",
            "view(1, 0, 5, NONE)", "view(-1, 0, 5, NONE)", "view(0, 0, 6, NONE)", "view(0, 0, -1, NONE)", "view(0, 0, IMAX, NONE)",
            "view(0, 0, IMIN, NONE)", "view(IMAX, IMAX, 0, NONE)", "view(IMIN, IMIN, 0, NONE)"};
        for (String text : wrongOnes) {
            x.ask("view(0, 0, 0, NONE)");
            x.due(text, BAD);
            x.due("status()", BAD);
        }
    }

    private static void numbersLikeBad() {
        sentence("(BAD, NONE may be numbers, too: status() tells)");
        for (long n : new long[] {BAD, FULL, NONE}) {
            Probe x = new Probe(2);
            x.ask("number(0, 0, " + n + ")");
            check("NUMBER", x.ask("view(0, 0, 1, NONE)"), n);
            x.due("status()", 0);
            x.fill(1, 0, (int) n);
            check("ITEM", x.ask("view(0, 1, 3, 1)"), n);
            x.due("status()", 0);
            x.due("view(0, 1, 3, 2)", BAD);
            x.due("status()", BAD);
        }
    }

    private static void status() {
        sentence("0 behind a view() that told something, else BAD.");
        Probe x = new Probe(2);
        x.due("status()", BAD);
        x.due("view(0, 3, 0, NONE)", NONE);
        x.due("status()", 0);
        x.due("view(0, 3, 0, 0)", BAD);
        x.due("status()", BAD);
        x.due("status()", BAD);
        x.due("number(0, 0, -1)", 1);
        check("a NUMBER of -1", x.ask("view(0, 0, 1, NONE)"), -1);
        x.due("status()", 0);
        x.due("status()", 0);
        x.due("number(0, 0, -2)", 2);
        check("a NUMBER of -2", x.ask("view(0, 0, 2, NONE)"), -2);
        x.due("status()", 0);
        x.due("view(0, 0, 3, NONE)", BAD);
        x.due("status()", BAD);
        x.due("view(0, 0, 0, NONE)", 0);
        x.due("status()", 0);
    }

    private static void told() {
        sentence("0 OBJECTS, 1 HEIGHT, 2 FETCHES so far, 3 how many TOUCHED, 4 of these changed, 5 LEAVES that the latest CALL WROTE, "
            + "6 OBJECTS LOADED in it, 7 its ACTS done (the one that threw counts), 8 CALLS so far (3 to 7: 0 without). BAD.");
        Probe x = new Probe();
        tells(x, 0, 0, 0, 0, 0, 0, 0, 0, 0);
        x.due("told(-1)", BAD);
        x.due("told(9)", BAD);
        x.due("told(IMIN)", BAD);
        x.due("told(IMAX)", BAD);
        x.due("object(0)", 0);
        x.due("object(1)", 1);
        x.due("link(0, 2, 1)", 1);
        tells(x, 2, 1, 0, 0, 0, 0, 0, 0, 0);
        x.calls("LINK 1 0 2; PUT 1 0 0; PUT 1 1 3; GET 1 1 0; GIVE 1; THROW", 5, 0);
        tells(x, 2, 2, 2, 4, 2, 1, 2, 5, 1);
        x.throwsAt("GET 1 0 0; PUT 0 0 0; OVER 1 0 2; GIVE 0", 6, ZERO, 2);
        tells(x, 2, 2, 3, 2, 1, 0, 1, 3, 2);
        x.ask("call(0, 6, 0)");
        x.ask("all(0, 0, 0)");
        tells(x, 2, 2, 3, 2, 1, 0, 1, 3, 2);
        x.throwsAt("GO 0", 6, STEPS, 0);
        tells(x, 2, 2, 3, 0, 0, 0, 0, 200, 3);
        x.due("call(0, 1, 0)", 0);
        tells(x, 2, 2, 3, 0, 0, 0, 0, 0, 4);
    }

    private static void tells(Probe x, int... want) {
        for (int what = 0; what < want.length; what++) {
            x.due("told(" + what + ")", want[what]);
        }
    }
}
