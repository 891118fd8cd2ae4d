import java.util.Arrays;
import java.util.Random;
import java.util.function.Supplier;

/** Boundary cases of SHEETS and FINDINGS, of count() and digest(): promises 30 to 37. */
final class SheetEdges {
    private static final int NONE = Edge.NONE, BAD = Edge.BAD, NOT = Edge.NOT, FULL = Edge.FULL;
    private static final int NULL = Edge.NULL, INDEX = Edge.INDEX, CAST = Edge.CAST, STORE = Edge.STORE, SIZE = Edge.SIZE;
    private static final int MIN = Edge.MIN, MAX = Edge.MAX;
    private static final int[] NO_SHEETS = {-1, 4, MIN, MAX}, NO_FORMS = {-1, 3, MIN, MAX};

    private SheetEdges() {
    }

    static void run() {
        forms();
        findings();
        sheet();
        lose();
        put();
        putRefused();
        get();
        copy();
        copyRefused();
        write();
        count();
        digest();
    }

    /**
     * SHEETS 0 (bytes), 1 (shorts) and 2 (ints) of n items, which are 10, 11 and so on (of many the first and the last alone,
     * as 512 calls are all that an object is made for); SHEET 3 is LOST.
     */
    private static TideMill rows(int n) {
        TideMill x = new TideMill();
        for (int s = 0; s < 3; s++) {
            x.sheet(s, s, n);
            for (int i = 0; i < n; i += n > 6 ? n - 1 : 1) {
                x.put(s, s, i, 10 + i);
            }
        }
        return x;
    }

    private static void itemsAre(Edge e, TideMill x, int s, int form, int... due) {
        for (int i = 0; i < due.length; i++) {
            e.is(x, due[i], "get", s, form, i);
        }
        e.is(x, due.length, "lose", s);
    }

    private static void forms() {
        Edge e = Edge.of(30, "SHEETS 0 .. 3 are LOST (at first) or a row of a FORM: 0 bytes, 1 shorts, 2 ints, "
                + "of 0 to 60 items (0 at first).");
        long[] least = {-128, -32768, MIN};
        long[] most = {127, 32767, MAX};
        for (int s = 0; s < 4; s++) {
            e.refused(TideMill::new, NULL, "lose", s);
            for (int form = 0; form < 3; form++) {
                TideMill x = new TideMill();
                e.is(x, 60, "sheet", s, form, 60);
                for (int i = 0; i < 60; i++) {
                    e.is(x, 0, "get", s, form, i);
                }
                e.is(x, 1, "put", s, form, 59, (int) most[form]);
                e.is(x, most[form], "get", s, form, 59);
                e.is(x, 1, "put", s, form, 0, (int) most[form] + 1);
                e.is(x, least[form], "get", s, form, 0);
                e.is(x, 60, "lose", s);
                e.is(x, 0, "sheet", s, form, 0);
                e.is(x, 0, "lose", s);
                e.is(x, NULL, "lose", s);
            }
        }
    }

    private static void findings() {
        Edge e = Edge.of(36, "FINDINGS (answers -10 less the number; they change nothing but count() 8):");
        TideMill x = rows(3);
        e.is(x, 0, "count", 8);
        e.is(x, -11, "write", 3);
        e.is(x, 1, "count", 8);
        e.is(x, -12, "put", 0, 0, 3, 7);
        e.is(x, 2, "count", 8);
        e.is(x, -13, "put", 0, 1, 0, 7);
        e.is(x, 3, "count", 8);
        e.is(x, -14, "copy", 0, 0, 1, 0, 1);
        e.is(x, 4, "count", 8);
        e.is(x, -15, "sheet", 0, 0, -1);
        e.is(x, 5, "count", 8);
        itemsAre(e, x, 0, 0, 10, 11, 12);
        e = Edge.of(31, "1 NULL: the SHEET is LOST;");
        e.refused(TideMill::new, NULL, "lose", 0);
        e.refused(() -> rows(3), NULL, "lose", 3);
        e = Edge.of(32, "2 INDEX: there is no such item;");
        e.refused(() -> rows(0), INDEX, "put", 0, 0, 0, 7);
        e.refused(() -> rows(3), INDEX, "put", 0, 0, 3, 7);
        e.refused(() -> rows(3), INDEX, "put", 0, 0, -1, 7);
        e = Edge.of(32, "3 CAST: it has another FORM;");
        e.refused(() -> rows(3), CAST, "put", 0, 1, 0, 7);
        e.refused(() -> rows(3), CAST, "put", 2, 1, 0, 7);
        e = Edge.of(34, "4 STORE: unlike FORMS;");
        e.refused(() -> rows(3), STORE, "copy", 0, 0, 1, 0, 3);
        e.refused(() -> rows(3), STORE, "copy", 2, 0, 0, 0, 0);
        e = Edge.of(30, "5 SIZE: below 0.");
        e.refused(TideMill::new, SIZE, "sheet", 0, 0, -1);
        e.refused(() -> rows(3), SIZE, "sheet", 1, 1, MIN);
        refusalsInTheirOrder();
    }

    private static void refusalsInTheirOrder() {
        String words = "Refusals, the first that fits, in the order told at each act: "
                + "BAD -2 (a number not as told, no such thing), NULL, NOT -3 (as told), FULL -4, other FINDINGS.";
        Edge.of(2, words).refused(Mills::full, BAD, "type", 0, 256);
        Edge.of(4, words).refused(TideMill::new, BAD, "undo", 2);
        Edge.of(9, words).refused(Mills::full, BAD, "rain", 40);
        Edge.of(10, words).refused(Mills::full, BAD, "dressing", 40);
        Edge.of(11, words).refused(TideMill::new, BAD, "back", 2);
        Edge.of(23, words).refused(Mills::full, BAD, "seen", 0, 21);
        Edge.of(30, words).refused(() -> rows(3), BAD, "sheet", 4, 0, -1);
        Edge.of(30, words).refused(() -> rows(3), BAD, "sheet", 0, 3, -1);
        Edge.of(32, words).refused(() -> rows(3), BAD, "put", 3, 3, -1, 7);
        Edge.of(32, words).refused(() -> rows(3), NULL, "put", 3, 0, -1, 7);
        Edge.of(32, words).refused(() -> rows(3), CAST, "put", 0, 1, -1, 7);
        Edge.of(33, words).refusedGet(() -> rows(3), BAD, 3, 3, -1);
        Edge.of(33, words).refusedGet(() -> rows(3), NULL, 3, 0, -1);
        Edge.of(33, words).refusedGet(() -> rows(3), CAST, 0, 1, -1);
        Edge.of(34, words).refused(() -> rows(3), BAD, "copy", 3, -1, 4, 0, 1);
        Edge.of(34, words).refused(() -> rows(3), NULL, "copy", 3, -1, 0, 0, 1);
        Edge.of(34, words).refused(() -> rows(3), STORE, "copy", 0, -1, 1, 0, 1);
        Edge e = Edge.of(36, "They change nothing (FINDINGS but count() 8).");
        TideMill x = Mills.full();
        e.is(x, FULL, "type", 0, '1');
        e.is(x, FULL, "rain", 0);
        e.is(x, FULL, "dressing", 0);
        e.is(x, FULL, "seen", 0, 0);
        e.is(x, BAD, "set", 0, 21);
        e.is(x, 0, "count", 8);
        e.is(x, CAST, "put", 0, 1, 0, 7);
        e.is(x, BAD, "wipe", 2);
        e.is(x, 3, "count", 8);
        e.holds("nothing of the mill has changed", View.ofMill(x).equals(View.ofMill(Mills.full())));
        e.refused(TideMill::new, NOT, "undo", 0);
    }

    private static void sheet() {
        Edge e = Edge.of(30, "A SHEET is a new row of a FORM with n items: n.");
        TideMill x = rows(3);
        e.is(x, 0, "sheet", 3, 0, 0);
        e.is(x, 1, "sheet", 3, 1, 1);
        e.is(x, 60, "sheet", 3, 2, 60);
        // a new row in place of an old one, even of its own FORM and size, begins with items of 0
        e.is(x, 3, "sheet", 0, 0, 3);
        itemsAre(e, x, 0, 0, 0, 0, 0);
        e.is(x, 2, "sheet", 1, 2, 2);
        e.is(x, CAST, "put", 1, 1, 0, 7);
        itemsAre(e, x, 1, 2, 0, 0);
        itemsAre(e, x, 2, 2, 10, 11, 12);
        // what stood behind the end of a smaller row is not there when it grows again
        x = rows(3);
        e.is(x, 1, "sheet", 2, 2, 1);
        e.is(x, 3, "sheet", 2, 2, 3);
        itemsAre(e, x, 2, 2, 0, 0, 0);
        e = Edge.of(30, "BAD: SHEET, FORM, above 60; SIZE.");
        for (int s : NO_SHEETS) {
            e.refused(() -> rows(3), BAD, "sheet", s, 0, 0);
            e.refused(() -> rows(3), BAD, "sheet", s, 0, -1);
        }
        for (int form : NO_FORMS) {
            e.refused(() -> rows(3), BAD, "sheet", 0, form, 0);
            e.refused(() -> rows(3), BAD, "sheet", 0, form, -1);
        }
        for (int s = 0; s < 4; s++) {
            e.refused(() -> rows(3), BAD, "sheet", s, 0, 61);
            e.refused(() -> rows(3), BAD, "sheet", s, 2, MAX);
            e.refused(() -> rows(3), SIZE, "sheet", s, 0, -1);
            e.refused(() -> rows(3), SIZE, "sheet", s, 2, MIN);
        }
    }

    private static void lose() {
        Edge e = Edge.of(31, "It is LOST: how many items it had.");
        for (int s = 0; s < 4; s++) {
            for (int n : new int[] {0, 1, 60}) {
                TideMill x = new TideMill();
                x.sheet(s, 1, n);
                e.is(x, n, "lose", s);
                e.is(x, NULL, "lose", s);
                e.is(x, NULL, "put", s, 1, 0, 7);
                e.is(x, NULL, "write", s);
            }
        }
        TideMill x = rows(3);
        e.is(x, 3, "lose", 1);
        itemsAre(e, x, 0, 0, 10, 11, 12);
        itemsAre(e, x, 2, 2, 10, 11, 12);
        e = Edge.of(31, "BAD; NULL.");
        for (int s : NO_SHEETS) {
            e.refused(TideMill::new, BAD, "lose", s);
            e.refused(() -> rows(3), BAD, "lose", s);
        }
        e.refused(() -> rows(3), NULL, "lose", 3);
    }

    private static void put() {
        Edge e = Edge.of(32, "Item i, treated as of a FORM, becomes v (the lowest bits that it has): 1.");
        int[][] bytes = {{0, 0}, {127, 127}, {128, -128}, {-128, -128}, {-129, 127}, {255, -1}, {256, 0}, {MIN, 0}, {MAX, -1}};
        int[][] shorts = {{127, 127}, {128, 128}, {32767, 32767}, {32768, -32768}, {-32769, 32767}, {65535, -1}, {65536, 0},
            {MIN, 0}, {MAX, -1}};
        int[][] ints = {{32768, 32768}, {65536, 65536}, {MAX, MAX}, {MIN, MIN}, {-1, -1}};
        int[][][] all = {bytes, shorts, ints};
        for (int form = 0; form < 3; form++) {
            for (int[] vAndItem : all[form]) {
                for (int i : new int[] {0, 1, 2}) {
                    TideMill x = rows(3);
                    int[] due = {10, 11, 12};
                    due[i] = vAndItem[1];
                    e.is(x, 1, "put", form, form, i, vAndItem[0]);
                    e.is(x, 0, "count", 8);
                    itemsAre(e, x, form, form, due);
                }
            }
        }
    }

    /** All that put() and get() refuse, the row being SHEET, FORM, item and refusal. */
    private static final int[][] WRONG_ITEMS = {{-1, 0, 0, BAD}, {4, 0, 0, BAD}, {MIN, 0, 0, BAD}, {MAX, 0, 0, BAD},
        {0, -1, 0, BAD}, {0, 3, 0, BAD}, {0, MIN, 0, BAD}, {0, MAX, 0, BAD}, {4, 3, -1, BAD}, {3, 3, 0, BAD}, {0, 3, 9, BAD},
        {3, 0, 0, NULL}, {3, 2, 59, NULL}, {3, 1, -1, NULL}, {3, 0, MAX, NULL},
        {0, 1, 0, CAST}, {0, 2, 2, CAST}, {1, 0, 0, CAST}, {1, 2, -1, CAST}, {2, 0, 3, CAST}, {2, 1, MAX, CAST},
        {0, 0, -1, INDEX}, {0, 0, 3, INDEX}, {1, 1, -1, INDEX}, {1, 1, 3, INDEX}, {2, 2, MIN, INDEX}, {2, 2, MAX, INDEX}};

    private static void putRefused() {
        Edge e = Edge.of(32, "BAD; NULL; CAST; INDEX.");
        for (int[] w : WRONG_ITEMS) {
            e.refused(() -> rows(3), w[3], "put", w[0], w[1], w[2], 7);
        }
        e.refused(() -> rows(0), INDEX, "put", 0, 0, 0, 7);
        e.refused(() -> rows(60), INDEX, "put", 2, 2, 60, 7);
        e.refused(TideMill::new, NULL, "put", 0, 0, 0, 7);
    }

    private static void get() {
        Edge e = Edge.of(33, "Item i of it.");
        e.harmless(() -> rows(60), 10, "get", 0, 0, 0);
        e.harmless(() -> rows(60), 69, "get", 1, 1, 59);
        e.harmless(() -> rows(60), 69, "get", 2, 2, 59);
        e = Edge.of(33, "BAD: the least int; so are NULL, CAST, INDEX (count() 8 tells).");
        for (int[] w : WRONG_ITEMS) {
            e.refusedGet(() -> rows(3), w[3], w[0], w[1], w[2]);
        }
        e.refusedGet(() -> rows(0), INDEX, 0, 0, 0);
        e.refusedGet(() -> rows(60), INDEX, 2, 2, 60);
        e.refusedGet(TideMill::new, NULL, 0, 0, 0);
        // an item that is the least int is no refusal
        TideMill x = rows(3);
        x.put(2, 2, 1, MIN);
        e.is(x, MIN, "get", 2, 2, 1);
        e.is(x, 0, "count", 8);
    }

    private static void copyIs(Edge e, int[] args, int... due) {
        TideMill x = rows(6);
        x.sheet(3, 1, 6);
        e.is(x, 1, "copy", args);
        e.is(x, 0, "count", 8);
        itemsAre(e, x, args[2], 1, due);
        if (args[2] != 1) {
            itemsAre(e, x, 1, 1, 10, 11, 12, 13, 14, 15);
        }
    }

    private static void copy() {
        Edge e = Edge.of(34, "n items of SHEET s, from i on, come to SHEET t (perhaps s, as they were), from j on: 1.");
        copyIs(e, new int[] {1, 0, 3, 0, 6}, 10, 11, 12, 13, 14, 15);
        copyIs(e, new int[] {1, 2, 3, 1, 3}, 0, 12, 13, 14, 0, 0);
        copyIs(e, new int[] {1, 5, 3, 5, 1}, 0, 0, 0, 0, 0, 15);
        copyIs(e, new int[] {1, 0, 1, 1, 5}, 10, 10, 11, 12, 13, 14);
        copyIs(e, new int[] {1, 1, 1, 0, 5}, 11, 12, 13, 14, 15, 15);
        copyIs(e, new int[] {1, 0, 1, 3, 3}, 10, 11, 12, 10, 11, 12);
        copyIs(e, new int[] {1, 0, 1, 0, 6}, 10, 11, 12, 13, 14, 15);
        for (int s = 0; s < 3; s++) {
            e.harmless(() -> rows(6), 1, "copy", s, 0, s, 0, 6);
            e.harmless(() -> rows(6), 1, "copy", s, 0, s, 0, 0);
            e.harmless(() -> rows(6), 1, "copy", s, 6, s, 6, 0);
            e.harmless(() -> rows(0), 1, "copy", s, 0, s, 0, 0);
        }
        // items of each FORM come as they are
        int[] greatest = {127, 32767, MAX};
        for (int form = 0; form < 3; form++) {
            TideMill x = new TideMill();
            x.sheet(0, form, 60);
            x.sheet(3, form, 60);
            x.put(0, form, 59, greatest[form]);
            x.put(0, form, 0, greatest[form] + 1);
            e.is(x, 1, "copy", 0, 0, 3, 0, 60);
            e.is(x, greatest[form], "get", 3, form, 59);
            e.is(x, -greatest[form] - 1, "get", 3, form, 0);
        }
    }

    private static void copyRefused() {
        Edge e = Edge.of(34, "BAD: the SHEETS; NULL: s, t; STORE; INDEX: below 0, not so many.");
        for (int s : NO_SHEETS) {
            e.refused(() -> rows(6), BAD, "copy", s, 0, 0, 0, 1);
            e.refused(() -> rows(6), BAD, "copy", 0, 0, s, 0, 1);
            e.refused(() -> rows(6), BAD, "copy", s, -1, 3, 0, 1);
            e.refused(() -> rows(6), BAD, "copy", 3, 0, s, -1, 1);
        }
        int[][] lost = {{3, 0, 0, 0, 1}, {0, 0, 3, 0, 1}, {3, 0, 3, 0, 0}, {3, -1, 0, 0, 1}, {0, 0, 3, 0, -1},
            {3, 0, 3, MAX, MAX}};
        int[][] unlike = {{0, 0, 1, 0, 1}, {1, 0, 2, 0, 0}, {2, 0, 0, 0, 6}, {0, -1, 2, 0, 1}, {1, 0, 0, 7, 1}, {2, 0, 1, 0, -1}};
        int[][] noItems = {{0, -1, 0, 0, 1}, {0, 0, 0, -1, 1}, {0, 0, 0, 0, -1}, {0, -1, 0, 0, 0}, {0, 0, 0, -1, 0},
            {0, 6, 0, 0, 1}, {0, 0, 0, 6, 1}, {0, 7, 0, 0, 0}, {0, 0, 0, 7, 0}, {0, 0, 0, 0, 7}, {0, 3, 0, 0, 4}, {0, 0, 0, 3, 4},
            {0, MIN, 0, 0, 1}, {0, 0, 0, MIN, 1}, {0, 0, 0, 0, MIN}, {0, MAX, 0, 0, 1}, {0, 0, 0, MAX, 1}, {0, 0, 0, 0, MAX},
            {0, MAX, 0, MAX, MAX}, {0, 1, 0, 1, MAX}, {0, MIN, 0, MIN, MIN}, {0, 6, 0, 6, -1}};
        copiesRefused(e, STORE, unlike);
        copiesRefused(e, NULL, lost);
        for (int[] args : noItems) {
            for (int s = 0; s < 3; s++) {
                e.refused(() -> rows(6), INDEX, "copy", s, args[1], s, args[3], args[4]);
            }
        }
        // of two SHEETS of a FORM, either may have not so many
        Supplier<TideMill> twoSizes = () -> {
            TideMill x = rows(6);
            x.sheet(0, 1, 2);
            return x;
        };
        e.refused(twoSizes, INDEX, "copy", 0, 0, 1, 0, 3);
        e.refused(twoSizes, INDEX, "copy", 1, 0, 0, 0, 3);
    }

    private static void copiesRefused(Edge e, int due, int[][] calls) {
        for (int[] args : calls) {
            e.refused(() -> rows(6), due, "copy", args);
        }
    }

    private static void write() {
        Edge e = Edge.of(35, "How high THE POND is behind HOURS 0 on comes to a SHEET from item 0 on, "
                + "as many as there are items, 40 at most: how many.");
        for (int form = 0; form < 3; form++) {
            for (int n : new int[] {0, 1, 39, 40, 41, 60}) {
                TideMill x = Mills.told(Mills.FULL_TIDES, Mills.FULL_ORDERS, 18);
                x.sheet(form, form, n);
                int[] due = new int[n];
                Arrays.fill(due, 99);
                for (int i = 0; i < n; i++) {
                    x.put(form, form, i, 99);
                    due[i] = i < 40 ? x.at(i, 0) : 99;
                }
                e.is(x, Math.min(n, 40), "write", form);
                e.is(x, 0, "count", 8);
                itemsAre(e, x, form, form, due);
            }
        }
        TideMill x = Mills.told("", "w4399");
        x.sheet(3, 2, 4);
        e.is(x, 4, "write", 3);
        itemsAre(e, x, 3, 2, 7, 4, 1, 1);
        e = Edge.of(35, "BAD; NULL.");
        for (int s : NO_SHEETS) {
            e.refused(TideMill::new, BAD, "write", s);
            e.refused(Mills::full, BAD, "write", s);
        }
        e.refused(TideMill::new, NULL, "write", 0);
        e.refused(Mills::full, NULL, "write", 3);
    }

    private static void count() {
        Edge e = Edge.of(36, "0 TIDES told, 1 ORDERS, 2, 3 bytes of texts, 4 RAINS, 5 DRESSINGS, 6 SACKS ground in all, 7 SEEN, "
                + "8 the number of the latest FINDING (0 before any).");
        int[] full = {40, 8, 40, 47, 6, 6, Mills.full().at(39, 1), 8, 0};
        for (int what = 0; what <= 8; what++) {
            e.harmless(TideMill::new, what == 8 ? 5 : 0, "count", what);
            e.is(new TideMill(), 0, "count", what);
            e.is(Mills.full(), full[what], "count", what);
        }
        TideMill x = Mills.told("12x", "w1000;");
        int[] faulty = {0, 0, 3, 6, 0, 0, 0, 0, 0};
        for (int what = 0; what <= 8; what++) {
            e.is(x, faulty[what], "count", what);
        }
        e.is(Mills.told("", "o9000;o9000", 20, 4, 0, 0, 9), 18, "count", 6);
        e.is(Mills.told("9".repeat(39), "o2000"), 1, "count", 6);
        // the latest of several; refusals that are no FINDING, and calls that are well, leave it
        x = rows(3);
        e.is(x, CAST, "put", 0, 1, 0, 0);
        e.is(x, NULL, "write", 3);
        e.is(x, BAD, "count", 9);
        e.is(x, NOT, "undo", 0);
        e.is(x, 1, "put", 0, 0, 0, 0);
        e.is(x, 3, "lose", 0);
        e.is(x, 1, "count", 8);
        e = Edge.of(36, "BAD.");
        for (int what : new int[] {-1, 9, MIN, MAX}) {
            e.refused(TideMill::new, BAD, "count", what);
            e.refused(Mills::full, BAD, "count", what);
        }
    }

    private static void digest() {
        Edge e = Edge.of(37, "h is 17; h becomes 31 h and each of: count() 0 to 7; of texts fault(); of HOURS 0 to 39 sea(), "
                + "at(it, 0 to 4); of ORDERS order() 0 to 3, ends(), shower(5, it), above, below; "
                + "paid(), spilt(), idle(), late(), row() 0 to 3, dress() 0, 1, least(), send() 0, 1, never(), was() 0, 1, ask(), moon(7, 30, 0 and 1); "
                + "as longs that wrap.");
        e.harmless(TideMill::new, digestOfNew(), "digest");
        e.harmless(Mills::full, View.digestOf(Mills.full()), "digest");
        for (int orders = 0; orders <= 8; orders++) {
            for (String behind : new String[] {"", "x"}) {
                String text = Mills.FULL_ORDERS.substring(0, Math.max(6 * orders - 1, 0));
                TideMill x = Mills.told("135798642", orders < 8 ? text + behind : text, 12, 3, 1, 1, 2);
                x.rain(2);
                x.dressing(6);
                x.seen(3, x.at(3, 0));
                e.is(x, View.digestOf(x), "digest");
            }
        }
        for (int seed = 1; seed <= 60; seed++) {
            TideMill x = byLots(new Random(seed));
            e.is(x, View.digestOf(x), "digest");
        }
        // SHEETS and FINDINGS are not in it
        TideMill x = rows(3);
        e.is(x, NULL, "lose", 3);
        e.is(x, digestOfNew(), "digest");
        lastCall();
    }

    /** A mill of low ponds and few orders, so that each of RAINS, DRESSINGS, START and moon is felt. */
    private static TideMill byLots(Random lots) {
        StringBuilder tides = new StringBuilder();
        StringBuilder orders = new StringBuilder();
        for (int i = lots.nextInt(41); i > 0; i--) {
            tides.append(lots.nextInt(10));
        }
        for (int i = lots.nextInt(5); i >= 0; i--) {
            orders.append("wro".charAt(lots.nextInt(3))).append(1 + lots.nextInt(4)).append(lots.nextInt(4));
            orders.append(lots.nextInt(10)).append(1 + lots.nextInt(9)).append(i > 0 ? ";" : "");
        }
        TideMill x = Mills.told(tides.toString(), orders.toString(), lots.nextInt(21), 1 + lots.nextInt(9), lots.nextInt(3),
                lots.nextInt(7), 1 + lots.nextInt(4));
        for (int i = 0; i < 6; i++) {
            x.rain(lots.nextInt(lots.nextInt(40) + 1));
        }
        x.dressing(lots.nextInt(40));
        x.seen(0, x.at(0, 0));
        return x;
    }

    /** No counts, two texts that are well, 40 HOURS of a pond that stands, and what is asked of them. */
    private static long digestOfNew() {
        long h = 17;
        int[] counts = {0, 0, 0, 0, 0, 0, 0, 0, NONE, NONE};
        int[] hour = {0, 10, 0, NONE, 0, 0};
        int[] rest = {0, 0, 0, 0, NONE, NONE, NONE, NONE, 0, 0, 0, NONE, NONE, 0, 1022, 2097151, 0, 0, 0};
        for (int v : counts) h = 31 * h + v;
        for (int i = 0; i < 40; i++) {
            for (int v : hour) h = 31 * h + v;
        }
        for (int v : rest) h = 31 * h + v;
        return h;
    }

    private static void lastCall() {
        Edge e = Edge.of(37, "An object is used for at most 512 calls after it has been made; what later calls answer is free.");
        TideMill x = new TideMill();
        for (int call = 1; call < 512; call++) {
            if (call % 2 == 1) {
                e.is(x, 1, "rain", call % 40);
            } else {
                e.is(x, 0, "back", 0);
            }
        }
        x = new TideMill();
        for (int call = 1; call <= 510; call += 2) {
            e.is(x, 1, "type", 0, call % 256);
            e.is(x, 0, "undo", 0);
        }
        e.is(x, 0, "spilt");
        e.is(x, digestOfNew(), "digest");
    }
}
