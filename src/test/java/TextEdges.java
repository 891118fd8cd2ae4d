/** Boundary cases of a new object, of texts, and of the tides and orders that they tell: promises 1 to 7. */
final class TextEdges {
    private static final int NONE = Edge.NONE, BAD = Edge.BAD, NOT = Edge.NOT, FULL = Edge.FULL, NULL = Edge.NULL;
    private static final int MIN = Edge.MIN, MAX = Edge.MAX;
    private static final int[] NO_TEXTS = {-1, 2, MIN, MAX};
    private static final String NINES = "9".repeat(40);

    private TextEdges() {
    }

    static void run() {
        tides();
        ordersInAText();
        partsOfAnOrder();
        faults();
        asIfEmpty();
        hours();
        newObject();
        type();
        wipe();
        undo();
        fault();
        sea();
        order();
    }

    private static void faultOf(Edge e, int text, String s, int due) {
        TideMill x = text == 0 ? Mills.told(s, "") : Mills.told("", s);
        e.is(x, due, "fault", text);
        e.is(x, due != NONE ? 0 : text == 0 ? s.length() : (s.length() + 1) / 6, "count", text);
        e.is(x, s.length(), "count", 2 + text);
    }

    private static void tides() {
        Edge e = Edge.of(6, "TIDES are a text of up to 40 figures 0 to 9 (text 0), one for each HOUR (0 on)");
        TideMill x = Mills.told("1" + "2".repeat(38) + "9", "");
        e.is(x, 40, "count", 0);
        e.is(x, 2, "sea", 0);
        e.is(x, 4, "sea", 1);
        e.is(x, 4, "sea", 38);
        e.is(x, 18, "sea", 39);
        e.refused(() -> Mills.told(NINES, ""), FULL, "type", 0, '0');
        faultOf(e, 0, "0", NONE);
        faultOf(e, 0, "9", NONE);
        faultOf(e, 0, "/", 0);
        faultOf(e, 0, ":", 0);
        e = Edge.of(6, "the sea stands twice as high; 0 in later ones.");
        x = Mills.told("0123456789", "");
        for (int hour = 0; hour < 40; hour++) {
            e.is(x, hour < 10 ? 2 * hour : 0, "sea", hour);
        }
        x = Mills.told("9".repeat(39), "");
        e.is(x, 18, "sea", 38);
        e.is(x, 0, "sea", 39);
        e.is(new TideMill(), 0, "sea", 0);
    }

    private static void ordersInAText() {
        Edge e = Edge.of(7, "ORDERS are a text of up to 47 bytes (text 1), 8 at most (0 on), with ; between them:");
        TideMill x = Mills.told("", Mills.FULL_ORDERS);
        e.is(x, 47, "count", 3);
        e.is(x, 8, "count", 1);
        int[] last = {0, 3, 21, 7};
        for (int what = 0; what < 4; what++) {
            e.is(x, last[what], "order", 7, what);
        }
        e.refused(Mills::full, BAD, "order", 8, 0);
        e.refused(Mills::full, FULL, "type", 1, ';');
        faultOf(e, 1, "w1000", NONE);
        faultOf(e, 1, "w1000;w1000", NONE);
        faultOf(e, 1, "w1000:w1000", 5);
        faultOf(e, 1, "w1000<w1000", 5);
        faultOf(e, 1, "w1000w1000", 5);
        faultOf(e, 1, ";w1000", 0);
        faultOf(e, 1, "w1000;;w1000", 6);
    }

    /** Of 256 bytes at a place of an ORDER, those that are well there; with any other that is the FAULT. */
    private static void wellAt(Edge e, int place, String well) {
        String order = "w1000";
        for (char c = 0; c <= 255; c++) {
            String s = order.substring(0, place) + c + order.substring(place + 1);
            TideMill x = Mills.told("", s);
            e.is(x, well.indexOf(c) >= 0 ? NONE : place, "fault", 1);
            e.is(x, well.indexOf(c) >= 0 ? 1 : 0, "count", 1);
        }
    }

    private static void partsOfAnOrder() {
        Edge e = Edge.of(7, "w (wheat), r (rye) or o (oats)");
        wellAt(e, 0, "wro");
        e.is(Mills.told("", "w1000"), 0, "order", 0, 0);
        e.is(Mills.told("", "r1000"), 1, "order", 0, 0);
        e.is(Mills.told("", "o1000"), 2, "order", 0, 0);
        e = Edge.of(7, "a figure, how many SACKS (1 to 9)");
        wellAt(e, 1, "123456789");
        e.is(Mills.told("", "w1000"), 1, "order", 0, 1);
        e.is(Mills.told("", "w9000"), 9, "order", 0, 1);
        e = Edge.of(7, "a figure 0 to 3 and a figure, the HOUR in which it is DUE (00 to 39)");
        wellAt(e, 2, "0123");
        wellAt(e, 3, "0123456789");
        e.is(Mills.told("", "w1000"), 0, "order", 0, 2);
        e.is(Mills.told("", "w1090"), 9, "order", 0, 2);
        e.is(Mills.told("", "w1100"), 10, "order", 0, 2);
        e.is(Mills.told("", "w1390"), 39, "order", 0, 2);
        e = Edge.of(7, "and a figure 0 to 9, its PAY");
        wellAt(e, 4, "0123456789");
        e.is(Mills.told("", "w1000"), 0, "order", 0, 3);
        e.is(Mills.told("", "w1009"), 9, "order", 0, 3);
    }

    private static void faults() {
        Edge e = Edge.of(5, "The FAULT of a text is the place of the first byte with which it cannot go on");
        faultOf(e, 0, "x", 0);
        faultOf(e, 0, "x12", 0);
        faultOf(e, 0, "1x2y", 1);
        faultOf(e, 0, "9".repeat(39) + "x", 39);
        for (char c = 0; c <= 255; c++) {
            faultOf(e, 0, "5" + c, c >= '0' && c <= '9' ? NONE : 1);
        }
        faultOf(e, 1, "x", 0);
        faultOf(e, 1, "w0;;;", 1);
        faultOf(e, 1, "w1400;x", 2);
        faultOf(e, 1, "w1000;x", 6);
        faultOf(e, 1, Mills.FULL_ORDERS.substring(0, 46) + ";", 46);
        e = Edge.of(5, "an empty one is well");
        for (int text = 0; text < 2; text++) {
            e.is(new TideMill(), NONE, "fault", text);
            TideMill x = Mills.told("x", "x");
            e.is(x, 0, "fault", text);
            e.is(x, 0, "undo", text);
            e.is(x, NONE, "fault", text);
            x.type(text, 'x');
            e.is(x, 1, "wipe", text);
            e.is(x, NONE, "fault", text);
        }
        e = Edge.of(5, "of one that is not ended, its end");
        for (int n = 1; n <= 47; n++) {
            faultOf(e, 1, Mills.FULL_ORDERS.substring(0, n), n % 6 == 5 ? NONE : n);
        }
        e = Edge.of(5, "here also of the first byte of a ninth.");
        // eight take all 47 bytes: the ; behind them finds no room, so the ninth never begins and the text stays well
        TideMill x = Mills.told("", Mills.FULL_ORDERS);
        e.is(x, FULL, "type", 1, ';');
        e.is(x, FULL, "type", 1, 'w');
        e.is(x, NONE, "fault", 1);
        e.is(x, 8, "count", 1);
    }

    private static void asIfEmpty() {
        Edge e = Edge.of(5, "With a FAULT a text is as if it was empty.");
        TideMill x = Mills.told("99x", "o1009;w1119");
        e.is(x, 0, "count", 0);
        e.is(x, 3, "count", 2);
        e.is(x, 2, "count", 1);
        e.is(x, 0, "sea", 0);
        e.hour(x, 0, 9, 1, 0, 0, 0);
        e.is(x, 2, "undo", 0);
        e.is(x, 18, "sea", 0);
        e.hour(x, 0, 14, 0, 0, 1, 0);
        x = Mills.told("9", "o1009;w1119;");
        e.is(x, 18, "sea", 0);
        e.is(x, 0, "count", 1);
        e.is(x, 12, "count", 3);
        e.refused(() -> Mills.told("9", "o1009;w1119;"), BAD, "order", 0, 0);
        e.refused(() -> Mills.told("9", "o1009;w1119;"), BAD, "ends", 0);
        e.refused(() -> Mills.told("9", "o1009;w1119;"), Edge.LONG_BAD, "shower", 5, 0, 0);
        e.hour(x, 39, 14, 0, NONE, 0, 0);
        String[] calls = {"paid", "idle", "late", "least"};
        for (String call : calls) {
            e.is(x, 0, call);
        }
        e.is(x, NONE, "row", 0);
        e.is(x, NONE, "row", 1);
        e.is(x, NONE, "send", 0);
        e.is(x, 0, "dress", 1);
        e.is(x, 0, "moon", 7, 30, 0);
        e.is(x, 11, "undo", 1);
        e.is(x, 2, "count", 1);
    }

    private static void hours() {
        int[] wrong = {-1, 40, MIN, MAX};
        Edge e = Edge.of(6, "HOURS are 0 to 39.");
        for (int hour : new int[] {0, 39}) {
            e.is(Mills.full(), hour == 0 ? 4 : 2, "sea", hour);
            e.is(new TideMill(), 1, "rain", hour);
            e.is(new TideMill(), 1, "dressing", hour);
            e.is(new TideMill(), 10, "at", hour, 0);
            e.is(new TideMill(), 1, "seen", hour, 0);
        }
        for (int hour : wrong) {
            e.refused(TideMill::new, BAD, "sea", hour);
            e.refused(TideMill::new, BAD, "rain", hour);
            e.refused(TideMill::new, BAD, "dressing", hour);
            e.refused(TideMill::new, BAD, "at", hour, 0);
            e.refused(TideMill::new, BAD, "seen", hour, 0);
        }
    }

    private static void newObject() {
        Edge e = Edge.of(1, "No TIDES, no ORDERS;");
        for (int what = 0; what <= 8; what++) {
            e.is(new TideMill(), 0, "count", what);
        }
        e.is(new TideMill(), 0, "sea", 0);
        e.is(new TideMill(), BAD, "order", 0, 0);
        e.is(new TideMill(), BAD, "ends", 0);
        e = Edge.of(1, "all SHEETS are LOST.");
        for (int s = 0; s < 4; s++) {
            e.refused(TideMill::new, NULL, "lose", s);
            e.refused(TideMill::new, NULL, "write", s);
            e.refused(TideMill::new, NULL, "read", s);
            e.refused(TideMill::new, NULL, "put", s, 0, 0, 0);
            e.refused(TideMill::new, NULL, "copy", s, 0, s, 0, 0);
            e.refusedGet(TideMill::new, NULL, s, 0, 0);
        }
    }

    private static void type() {
        Edge e = Edge.of(2, "A byte (0 to 255) comes behind a text: how many.");
        for (int text = 0; text < 2; text++) {
            TideMill x = new TideMill();
            int room = text == 0 ? 40 : 47;
            for (int n = 1; n <= room; n++) {
                e.is(x, n, "type", text, n == 1 ? 0 : n == room ? 255 : 48);
            }
            e.is(x, room, "count", 2 + text);
            e.is(x, 0, "count", 3 - text);
            for (int b : new int[] {-1, 256, MIN, MAX}) {
                e.refused(TideMill::new, BAD, "type", text, b);
            }
        }
        e = Edge.of(2, "BAD; FULL.");
        for (int text : NO_TEXTS) {
            e.refused(TideMill::new, BAD, "type", text, 48);
            e.refused(Mills::full, BAD, "type", text, 48);
        }
        for (int text = 0; text < 2; text++) {
            e.refused(Mills::full, FULL, "type", text, 0);
            e.refused(Mills::full, FULL, "type", text, 255);
            e.refused(Mills::full, BAD, "type", text, -1);
            e.refused(Mills::full, BAD, "type", text, 256);
        }
        TideMill x = Mills.told(NINES, "");
        e.is(x, FULL, "type", 0, 57);
        e.is(x, 1, "type", 1, 57);
        e.is(x, 39, "undo", 0);
        e.is(x, 40, "type", 0, 57);
    }

    private static void wipe() {
        Edge e = Edge.of(3, "A text is empty: how many bytes it had.");
        TideMill x = Mills.full();
        e.is(x, 40, "wipe", 0);
        e.is(x, 0, "wipe", 0);
        e.is(x, 0, "sea", 0);
        e.is(x, 8, "count", 1);
        e.is(x, 47, "wipe", 1);
        e.is(x, 0, "wipe", 1);
        e.is(x, 0, "count", 1);
        e.is(x, 6, "count", 4);
        e.is(x, 8, "count", 7);
        x = Mills.told("12x", "w1");
        e.is(x, 3, "wipe", 0);
        e.is(x, 2, "wipe", 1);
        e.is(x, 1, "type", 0, 57);
        e.is(x, 18, "sea", 0);
        e.is(x, 0, "sea", 1);
        e = Edge.of(3, "BAD.");
        for (int text : NO_TEXTS) {
            e.refused(TideMill::new, BAD, "wipe", text);
            e.refused(Mills::full, BAD, "wipe", text);
        }
    }

    private static void undo() {
        Edge e = Edge.of(4, "The last byte of a text is undone: how many are left.");
        TideMill x = Mills.told(NINES, Mills.FULL_ORDERS);
        e.is(x, 39, "undo", 0);
        e.is(x, 0, "sea", 39);
        e.is(x, 18, "sea", 38);
        for (int left = 46; left >= 0; left--) {
            e.is(x, left, "undo", 1);
            e.is(x, left % 6 == 5 ? (left + 1) / 6 : 0, "count", 1);
        }
        e.is(x, 39, "count", 0);
        e = Edge.of(4, "BAD; NOT: it is empty.");
        for (int text : NO_TEXTS) {
            e.refused(TideMill::new, BAD, "undo", text);
            e.refused(Mills::full, BAD, "undo", text);
        }
        e.refused(TideMill::new, NOT, "undo", 0);
        e.refused(TideMill::new, NOT, "undo", 1);
        e.refused(() -> Mills.told("", Mills.FULL_ORDERS), NOT, "undo", 0);
        e.refused(() -> Mills.told(NINES, ""), NOT, "undo", 1);
        x = Mills.told("5", "w");
        e.is(x, 0, "undo", 0);
        e.is(x, NOT, "undo", 0);
        e.is(x, 0, "undo", 1);
        e.is(x, NOT, "undo", 1);
    }

    private static void fault() {
        Edge e = Edge.of(5, "The FAULT of a text; NONE.");
        TideMill x = Mills.full();
        e.is(x, NONE, "fault", 0);
        e.is(x, NONE, "fault", 1);
        x = Mills.told("x", "w1000");
        e.is(x, 0, "fault", 0);
        e.is(x, NONE, "fault", 1);
        x = Mills.told("5", "w1000x");
        e.is(x, NONE, "fault", 0);
        e.is(x, 5, "fault", 1);
        e = Edge.of(5, "BAD.");
        for (int text : NO_TEXTS) {
            e.refused(TideMill::new, BAD, "fault", text);
            e.refused(Mills::full, BAD, "fault", text);
        }
    }

    private static void sea() {
        Edge e = Edge.of(6, "How high the sea stands in an HOUR.");
        TideMill x = Mills.told(NINES, "");
        e.is(x, 18, "sea", 0);
        e.is(x, 18, "sea", 39);
        x = Mills.told("0" + NINES.substring(2) + "0", "");
        e.is(x, 0, "sea", 0);
        e.is(x, 18, "sea", 1);
        e.is(x, 18, "sea", 38);
        e.is(x, 0, "sea", 39);
        e = Edge.of(6, "BAD.");
        for (int hour : new int[] {-1, 40, MIN, MAX}) {
            e.refused(Mills::full, BAD, "sea", hour);
        }
    }

    private static void order() {
        Edge e = Edge.of(7, "Its grain (what = 0: 0 w, 1 r, 2 o), SACKS (1), when it is DUE (2), PAY (3) of an ORDER.");
        TideMill x = Mills.told("", "w1000;r5207;o9399");
        int[][] due = {{0, 1, 0, 0}, {1, 5, 20, 7}, {2, 9, 39, 9}};
        for (int i = 0; i < 12; i++) {
            e.is(x, due[i / 4][i % 4], "order", i / 4, i % 4);
        }
        e = Edge.of(7, "BAD.");
        for (int what = 0; what < 4; what++) {
            for (int order : new int[] {-1, 8, MIN, MAX}) {
                e.refused(Mills::full, BAD, "order", order, what);
            }
            e.refused(TideMill::new, BAD, "order", 0, what);
            e.refused(() -> Mills.told("", "w1000"), BAD, "order", 1, what);
        }
        for (int what : new int[] {-1, 4, MIN, MAX}) {
            e.refused(Mills::full, BAD, "order", 0, what);
            e.refused(Mills::full, BAD, "order", 8, what);
        }
    }
}
