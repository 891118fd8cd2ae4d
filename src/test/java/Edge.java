import java.lang.reflect.Method;
import java.util.List;
import java.util.Map;
import java.util.Set;
import java.util.TreeMap;
import java.util.TreeSet;
import java.util.function.Supplier;

/** A sentence of the document and the promise that it belongs to: each answer tested for it is told with both. */
final class Edge {
    static final int NONE = -1, BAD = -2, NOT = -3, FULL = -4;
    static final int NULL = -11, INDEX = -12, CAST = -13, STORE = -14, SIZE = -15;
    static final int LEAST_INT = Integer.MIN_VALUE, MIN = Integer.MIN_VALUE, MAX = Integer.MAX_VALUE;
    static final long LONG_BAD = Long.MIN_VALUE + 2;

    private static final Map<Long, String> WORDS = Map.of(-2L, "BAD", -3L, "NOT", -4L, "FULL", LONG_BAD, "BAD",
            -11L, "NULL", -12L, "INDEX", -13L, "CAST", -14L, "STORE", -15L, "SIZE");
    private static final Document DOCUMENT = Document.atHand();
    private static final Map<Integer, Set<String>> REFUSED = new TreeMap<>();
    private static final Map<String, Method> FACE = new TreeMap<>();

    private final int promise;
    private final String words;

    private Edge(int promise, String words) {
        this.promise = promise;
        this.words = words;
    }

    /** The words stand in the promise itself, or in the terms on which it stands. */
    static Edge of(int promise, String words) {
        Edge edge = new Edge(promise, words);
        if (DOCUMENT != null) {
            edge.holds("the document says so", DOCUMENT.quote(promise, words));
        }
        return edge;
    }

    private String told(String call) {
        return "promise " + promise + ", \"" + words + "\": " + call;
    }

    void holds(String what, boolean held) {
        Due.holds(told(what), held);
    }

    void is(TideMill x, long due, String call, int... args) {
        Due.is(told(textOf(call, args)), answer(x, call, args), due);
    }

    /** The calls at(hour, 0 to 4), as many as there are numbers due. */
    void hour(TideMill x, int hour, int... due) {
        for (int what = 0; what < due.length; what++) {
            is(x, due[what], "at", hour, what);
        }
    }

    /** A call that is refused, and that nothing else changed by it: but count() 8, if it is a FINDING. */
    void refused(Supplier<TideMill> maker, long due, String call, int... args) {
        refused(maker, due, due, call, args);
    }

    /** get() that is refused: all refusals answer the least int, and count() 8 tells them apart. */
    void refusedGet(Supplier<TideMill> maker, int refusal, int s, int form, int i) {
        refused(maker, LEAST_INT, refusal, "get", s, form, i);
    }

    private void refused(Supplier<TideMill> maker, long due, long refusal, String call, int... args) {
        REFUSED.computeIfAbsent(promise, n -> new TreeSet<>()).add(WORDS.get(refusal));
        boolean finding = refusal <= NULL && refusal >= SIZE;
        changesNothing(maker, due, finding ? (int) (-10 - refusal) : 0, call, args);
    }

    /** A call that answers and changes nothing. */
    void harmless(Supplier<TideMill> maker, long due, String call, int... args) {
        changesNothing(maker, due, 0, call, args);
    }

    /** The object is held against another, made by the same calls but for this one; number: its FINDING, 0 if it has none. */
    private void changesNothing(Supplier<TideMill> maker, long due, int number, String call, int... args) {
        String text = textOf(call, args);
        int before = number == 5 ? 1 : 5;
        TideMill x = behindFinding(maker, before);
        Due.is(told(text), answer(x, call, args), due);
        Due.is(told("count(8) behind " + text), x.count(8), number == 0 ? before : number);
        List<Long> was = View.ofMill(behindFinding(maker, before));
        holds(text + " changes nothing of the mill", View.ofMill(x).equals(was));
        x = behindFinding(maker, before);
        answer(x, call, args);
        was = View.ofSheets(behindFinding(maker, before));
        holds(text + " changes no SHEET", View.ofSheets(x).equals(was));
    }

    /** With another FINDING behind it than that which is due next, so that a change of count() 8 is seen. */
    private TideMill behindFinding(Supplier<TideMill> maker, int number) {
        TideMill x = maker.get();
        if (number == 5) {
            is(x, SIZE, "sheet", 0, 0, -1);
        } else {
            is(x, NULL, "lose", 3);
        }
        return x;
    }

    private static String textOf(String call, int... args) {
        StringBuilder text = new StringBuilder(call).append('(');
        for (int i = 0; i < args.length; i++) {
            text.append(i == 0 ? "" : ", ").append(args[i]);
        }
        return text.append(')').toString();
    }

    static long answer(TideMill x, String call, int... args) {
        if (FACE.isEmpty()) {
            for (Method m : TideMill.class.getMethods()) {
                FACE.put(m.getName(), m);
            }
        }
        Object[] boxed = new Object[args.length];
        for (int i = 0; i < args.length; i++) {
            boxed[i] = args[i];
        }
        try {
            return ((Number) FACE.get(call).invoke(x, boxed)).longValue();
        } catch (ReflectiveOperationException e) {
            throw new IllegalStateException(textOf(call, args), e);
        }
    }

    /** That every sentence of the terms and promises was quoted by a test, and every refusal told was met. */
    static void close() {
        if (DOCUMENT == null) {
            System.out.println("the document is not at hand: what the tests quote is not held against it");
            return;
        }
        Due.holds("terms and promises are found in the document", DOCUMENT.isWhole());
        for (String words : DOCUMENT.unquoted()) {
            Due.holds("a test for promise " + words, false);
        }
        for (int n = 1; n <= Document.PROMISES; n++) {
            Set<String> met = REFUSED.getOrDefault(n, Set.of());
            Set<String> told = DOCUMENT.refusals(n);
            Due.holds("promise " + n + " tells the refusals " + told + ", tested are " + met, met.containsAll(told));
        }
    }
}
