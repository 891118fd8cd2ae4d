import java.util.function.Supplier;

/** Boundary cases of START, FLOW, LEAK, HEAD and SHARP, of RAINS and DRESSINGS, and of RAINS from a SHEET: promises 8 to 12. */
final class MillEdges {
    private static final int NONE = Edge.NONE, BAD = Edge.BAD, NOT = Edge.NOT, FULL = Edge.FULL, NULL = Edge.NULL;
    private static final int MIN = Edge.MIN, MAX = Edge.MAX;
    private static final int START = 0, FLOW = 1, LEAK = 2, HEAD = 3, SHARP = 4;
    private static final int[] LEAST = {0, 1, 0, 0, 1}, MOST = {20, 9, 9, 9, 9}, FIRST = {10, 4, 0, 2, 5};
    private static final int[] NO_HOURS = {-1, 40, MIN, MAX};

    private MillEdges() {
    }

    static void run() {
        start();
        flow();
        leak();
        head();
        sharp();
        rainsAndDressings();
        set();
        rainAndDressing(9, "rain", 4, "A RAIN more: how many.");
        rainAndDressing(10, "dressing", 5, "A DRESSING more: how many.");
        back();
        read();
        readRefused();
    }

    private static TideMill with(TideMill x, int what, int v) {
        x.set(what, v);
        return x;
    }

    /** The first value and both ends of a range are well, one more at either end is refused. */
    private static void range(Edge e, int what) {
        TideMill x = new TideMill();
        e.is(x, FIRST[what], "set", what, LEAST[what]);
        e.is(x, LEAST[what], "set", what, MOST[what]);
        e.is(x, MOST[what], "set", what, FIRST[what]);
        for (int v : new int[] {LEAST[what] - 1, MOST[what] + 1, MIN, MAX}) {
            e.refused(TideMill::new, BAD, "set", what, v);
            e.refused(Mills::full, BAD, "set", what, v);
        }
    }

    private static void start() {
        Edge e = Edge.of(8, "START (0 to 20; 10 at first), how high THE POND is at first;");
        range(e, START);
        e.is(new TideMill(), 10, "at", 0, 0);
        e.is(with(new TideMill(), START, 0), 0, "at", 0, 0);
        e.is(with(new TideMill(), START, 20), 20, "at", 0, 0);
    }

    private static void flow() {
        Edge e = Edge.of(8, "FLOW (1 to 9; 4 at first)");
        range(e, FLOW);
        e.is(Mills.told("9", "", 0), 4, "at", 0, 0);
        e.is(Mills.told("9", "", 0, 1), 1, "at", 0, 0);
        e.is(Mills.told("9", "", 0, 9), 9, "at", 0, 0);
    }

    private static void leak() {
        Edge e = Edge.of(8, "LEAK (0 to 9; 0 at first)");
        range(e, LEAK);
        e.is(new TideMill(), 10, "at", 39, 0);
        e.is(with(new TideMill(), LEAK, 9), 1, "at", 0, 0);
        e.is(with(with(new TideMill(), LEAK, 9), LEAK, 0), 10, "at", 39, 0);
    }

    private static void head() {
        Edge e = Edge.of(8, "HEAD (0 to 9; 2 at first)");
        range(e, HEAD);
        e.is(Mills.told("", "o1000", 2), 1, "count", 6);
        e.is(Mills.told("", "o1000", 1), 0, "count", 6);
        e.is(with(Mills.told("", "o1000", 0), HEAD, 0), 1, "count", 6);
        e.is(with(Mills.told("", "o1000", 9), HEAD, 9), 1, "count", 6);
        e.is(with(Mills.told("", "o1000", 8), HEAD, 9), 0, "count", 6);
    }

    private static void sharp() {
        Edge e = Edge.of(8, "SHARP (1 to 9; 5 at first).");
        range(e, SHARP);
        TideMill x = Mills.told("", "o9000;o1000", 20);
        e.is(x, 0, "at", 3, 4);
        e.is(x, 1, "at", 4, 4);
        e.is(with(x, SHARP, 1), 1, "at", 0, 4);
        e.is(x, 2, "at", 1, 4);
        e.is(with(x, SHARP, 9), 0, "at", 7, 4);
        e.is(x, 1, "at", 8, 4);
    }

    private static void rainsAndDressings() {
        Edge e = Edge.of(9, "RAINS, 6 at most (0 on): in an HOUR.");
        TideMill x = Mills.told("", "", 0);
        int[] hours = {39, 0, 0, 7, 0, 0};
        for (int i = 0; i < 6; i++) {
            e.is(x, i + 1, "rain", hours[i]);
        }
        e.is(x, FULL, "rain", 1);
        e.is(x, 12, "at", 6, 0);
        e.is(x, 15, "at", 38, 0);
        e.is(x, 18, "at", 39, 0);
        x.seen(38, 15);
        e.is(x, 1, "never");
        e = Edge.of(10, "DRESSINGS, 6 at most (0 on): in an HOUR.");
        x = Mills.told("", "o9000", 20);
        hours = new int[] {0, 1, 1, 3, 39, 4};
        for (int i = 0; i < 6; i++) {
            e.is(x, i + 1, "dressing", hours[i]);
        }
        e.is(x, FULL, "dressing", 2);
        int[] sacks = {0, 0, 1, 1, 1, 2};
        for (int hour = 0; hour < 6; hour++) {
            e.is(x, sacks[hour], "at", hour, 1);
        }
    }

    private static void set() {
        Edge e = Edge.of(8, "START (what = 0), FLOW (1), LEAK (2), HEAD (3), SHARP (4): what it was.");
        TideMill x = new TideMill();
        for (int what = 0; what < 5; what++) {
            e.is(x, FIRST[what], "set", what, what + 2);
        }
        for (int what = 0; what < 5; what++) {
            e.is(x, what + 2, "set", what, what + 2);
            e.is(x, what + 2, "set", what, FIRST[what]);
        }
        // in an HOUR of sea 18: START 3 and FLOW 9 make 12, LEAK 1 makes 11
        x = Mills.told("9", "", 3, 9, 1);
        e.is(x, 11, "at", 0, 0);
        e = Edge.of(8, "BAD.");
        for (int what : new int[] {-1, 5, MIN, MAX}) {
            e.refused(TideMill::new, BAD, "set", what, 1);
            e.refused(Mills::full, BAD, "set", what, 1);
            e.refused(Mills::full, BAD, "set", what, 21);
        }
        for (int what = 0; what < 5; what++) {
            e.refused(Mills::full, BAD, "set", what, LEAST[what] - 1);
            e.refused(Mills::full, BAD, "set", what, MOST[what] + 1);
        }
    }

    private static TideMill six(String call) {
        TideMill x = new TideMill();
        for (int i = 0; i < 6; i++) {
            Edge.answer(x, call, i);
        }
        return x;
    }

    /** rain() and dressing() have the same sentences, with words of their own. */
    private static void rainAndDressing(int promise, String call, int count, String more) {
        Edge e = Edge.of(promise, more);
        TideMill x = new TideMill();
        for (int n = 1; n <= 6; n++) {
            e.is(x, n, call, n % 2 == 0 ? 0 : 39);
            e.is(x, n, "count", count);
            e.is(x, 0, "count", 9 - count);
        }
        e = Edge.of(promise, "BAD; FULL.");
        for (int hour : NO_HOURS) {
            e.refused(TideMill::new, BAD, call, hour);
            e.refused(() -> six(call), BAD, call, hour);
        }
        e.refused(() -> six(call), FULL, call, 0);
        e.refused(Mills::full, FULL, call, 39);
        x = six(call);
        e.is(x, FULL, call, 0);
        e.is(x, 5, "back", count - 4);
        e.is(x, 6, call, 0);
        e.is(x, FULL, call, 0);
    }

    private static void back() {
        Edge e = Edge.of(11, "The last RAIN (what = 0), DRESSING (1) is undone: how many are left.");
        TideMill x = new TideMill();
        x.rain(9);
        x.rain(0);
        e.is(x, 13, "at", 0, 0);
        e.is(x, 1, "back", 0);
        e.is(x, 10, "at", 0, 0);
        e.is(x, 13, "at", 9, 0);
        e.is(x, 0, "back", 0);
        e.is(x, 10, "at", 9, 0);
        x = Mills.told("", "o2000");
        x.dressing(1);
        x.dressing(0);
        e.is(x, 3, "ends", 0);
        e.is(x, 1, "back", 1);
        e.is(x, 2, "ends", 0);
        e.is(x, 0, "back", 1);
        e.is(x, 1, "ends", 0);
        x = Mills.full();
        for (int left = 5; left >= 0; left--) {
            e.is(x, left, "back", 0);
            e.is(x, left, "count", 4);
            e.is(x, 6, "count", 5);
        }
        for (int left = 5; left >= 0; left--) {
            e.is(x, left, "back", 1);
            e.is(x, left, "count", 5);
        }
        e = Edge.of(11, "BAD; NOT: there is none.");
        for (int what : new int[] {-1, 2, MIN, MAX}) {
            e.refused(TideMill::new, BAD, "back", what);
            e.refused(Mills::full, BAD, "back", what);
        }
        e.refused(TideMill::new, NOT, "back", 0);
        e.refused(TideMill::new, NOT, "back", 1);
        e.refused(() -> six("dressing"), NOT, "back", 0);
        e.refused(() -> six("rain"), NOT, "back", 1);
        e.is(x, NOT, "back", 0);
        e.is(x, NOT, "back", 1);
    }

    /** A mill with nothing in THE POND, some RAINS in HOUR 0, and a SHEET 1 of a FORM with these items. */
    private static Supplier<TideMill> sheetOf(int rains, int form, int... items) {
        return () -> {
            TideMill x = Mills.told("", "", 0);
            for (int i = 0; i < rains; i++) {
                x.rain(0);
            }
            x.sheet(1, form, items.length);
            for (int i = 0; i < items.length; i++) {
                x.put(1, form, i, items[i]);
            }
            return x;
        };
    }

    private static void readIs(Edge e, Supplier<TideMill> maker, int due) {
        TideMill x = maker.get();
        int before = x.count(4);
        e.is(x, due, "read", 1);
        e.is(x, before + due, "count", 4);
        e.is(x, 0, "count", 8);
        x = maker.get();
        x.read(1);
        e.holds("read(1) leaves the SHEET as it was", View.ofSheets(x).equals(View.ofSheets(maker.get())));
    }

    private static void read() {
        Edge e = Edge.of(12, "RAINS from a SHEET: its items, one for each, as long as each may be: how many.");
        for (int form = 0; form < 3; form++) {
            e.harmless(sheetOf(0, form), 0, "read", 1);
            e.harmless(sheetOf(3, form), 0, "read", 1);
            e.harmless(sheetOf(3, form, -1, 0, 0), 0, "read", 1);
            e.harmless(sheetOf(3, form, 40, 0, 0), 0, "read", 1);
            e.harmless(sheetOf(6, form, 0, 0, 0), 0, "read", 1);
            readIs(e, sheetOf(0, form, 0), 1);
            readIs(e, sheetOf(0, form, 39), 1);
            readIs(e, sheetOf(0, form, 0, 39, 40, 1), 2);
            readIs(e, sheetOf(0, form, 5, 5, 5, -1, 5), 3);
            readIs(e, sheetOf(0, form, 1, 2, 3, 4, 5, 6), 6);
            readIs(e, sheetOf(0, form, 1, 2, 3, 4, 5, 6, 7), 6);
            readIs(e, sheetOf(0, form, new int[60]), 6);
            readIs(e, sheetOf(4, form, 1, 2), 2);
            readIs(e, sheetOf(5, form, 1, 2), 1);
        }
        readIs(e, sheetOf(0, 0, 256 + 7, 200, 1), 1);
        readIs(e, sheetOf(0, 1, 65536 + 7, 256 + 7, 1), 1);
        readIs(e, sheetOf(0, 2, 39, MAX, 1), 1);
        readIs(e, sheetOf(0, 2, 39, MIN, 1), 1);
        TideMill x = sheetOf(1, 0, 39, 8, 8).get();
        e.is(x, 3, "at", 39, 0);
        e.is(x, 3, "read", 1);
        e.is(x, 9, "at", 38, 0);
        e.is(x, 12, "at", 39, 0);
        e.is(x, 3, "back", 0);
        e.is(x, 6, "at", 38, 0);
        e.is(x, 2, "back", 0);
        e.is(x, 3, "at", 38, 0);
        e.is(x, 6, "at", 39, 0);
        e.is(x, 1, "back", 0);
        e.is(x, 3, "at", 39, 0);
    }

    private static void readRefused() {
        Edge e = Edge.of(12, "BAD; NULL.");
        for (int s : new int[] {-1, 4, MIN, MAX}) {
            e.refused(TideMill::new, BAD, "read", s);
            e.refused(Mills::full, BAD, "read", s);
        }
        for (int s = 0; s < 4; s++) {
            e.refused(TideMill::new, NULL, "read", s);
        }
        e.refused(Mills::full, NULL, "read", 3);
    }
}
