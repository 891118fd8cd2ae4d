/** Boundary cases of ROW, DRESS, LEAST and SEND: promises 19 to 22. */
final class PlanEdges {
    private static final int NONE = Edge.NONE, BAD = Edge.BAD;
    private static final int MIN = Edge.MIN, MAX = Edge.MAX;

    private PlanEdges() {
    }

    static void run() {
        rows();
        rowsOfEight();
        dress();
        lastHourIsBest();
        least();
        send();
    }

    private static void rowIs(Edge e, TideMill x, int much, int... row) {
        e.is(x, much, "row", 0);
        for (int i = 0; i < 8; i++) {
            e.is(x, i < row.length ? row[i] : NONE, "row", 1 + i);
        }
    }

    private static void rows() {
        Edge e = Edge.of(19, "ROW: of all rows of all ORDERS, in which these are ground, that by which most is PAID, "
                + "of like ones the least: how much; the i-th; NONE.");
        rowIs(e, new TideMill(), NONE);
        rowIs(e, Mills.told("", "o1009"), 9, 0);
        rowIs(e, Mills.told("", "w9009"), 0, 0);
        // the wheat leaves no head for the oats, the oats leave none for the last of the wheat
        rowIs(e, Mills.told("", "w3028;o1009"), 9, 1, 0);
        rowIs(e, Mills.told("", "w3029;o1009"), 9, 0, 1);
        rowIs(e, Mills.told("", "o1009;w3029"), 9, 0, 1);
        rowIs(e, Mills.told("", "o1000;o1000;o1000"), 0, 0, 1, 2);
        rowIs(e, Mills.told("", "o1012;o1002;o1029"), 13, 1, 0, 2);
        // three sacks of oats leave 4, and stones too dull for the wheat; the wheat first leaves 2 for the third of the oats
        rowIs(e, Mills.told("", "o3395;w1394", 7, 4, 0, 2, 3), 5, 0, 1);
        e = Edge.of(19, "ROW: how much (what = 0; NONE: there are no ORDERS), the i-th (1 and i, to 8; NONE).");
        for (int what = 0; what <= 8; what++) {
            e.harmless(TideMill::new, NONE, "row", what);
        }
        TideMill x = Mills.told("", "o1009;o1000");
        rowIs(e, x, 9, 0, 1);
        e.is(x, 0, "wipe", 0);
        e.is(x, 11, "wipe", 1);
        rowIs(e, x, NONE);
        // asked again behind a change, or one to the same
        x = Mills.told("", "w3028;o1009");
        rowIs(e, x, 9, 1, 0);
        e.is(x, 10, "set", 0, 10);
        rowIs(e, x, 9, 1, 0);
        e.is(x, 10, "set", 0, 0);
        rowIs(e, x, 0, 0, 1);
        e.harmless(Mills::full, Mills.full().row(0), "row", 0);
        e.harmless(Mills::full, Mills.full().row(8), "row", 8);
        e = Edge.of(19, "BAD.");
        for (int what : new int[] {-1, 9, MIN, MAX}) {
            e.refused(TideMill::new, BAD, "row", what);
            e.refused(Mills::full, BAD, "row", what);
        }
    }

    private static void rowsOfEight() {
        Edge e = Edge.of(19, "ROW: how much (what = 0; NONE: there are no ORDERS), the i-th (1 and i, to 8; NONE).");
        rowIs(e, Mills.told("", "o1009;o1019;o1029;o1039;o1049;o1059;o1069;o1079", 20), 72, 0, 1, 2, 3, 4, 5, 6, 7);
        rowIs(e, Mills.told("", "o1079;o1069;o1059;o1049;o1039;o1029;o1019;o1009", 20), 72, 7, 6, 5, 4, 3, 2, 1, 0);
        rowIs(e, Mills.told("", "o1390;o1390;o1390;o1390;o1390;o1390;o1390;o1390", 20), 0, 0, 1, 2, 3, 4, 5, 6, 7);
        rowIs(e, Mills.told("", "o1000;o1000;o1000;o1000;o1000;o1000;o1000;o1009", 20), 9, 7, 0, 1, 2, 3, 4, 5, 6);
        rowIs(e, Mills.told("", "o1070;o1060;o1059;o1049;o1039;o1029;o1019;o1009", 20), 54, 7, 6, 5, 4, 3, 2, 0, 1);
    }

    private static TideMill dull(int... dressings) {
        TideMill x = Mills.told("", "o9399", 10, 4, 0, 2, 1);
        for (int hour : dressings) {
            x.dressing(hour);
        }
        return x;
    }

    private static void dress() {
        Edge e = Edge.of(20, "DRESS: the HOUR (0 to 39) for a DRESSING more (whatever room), "
                + "by which most SACKS are ground in all, of like ones the least: which; how many.");
        // five sacks are ground undressed; dressed in HOUR 4 or any later one seven, in an earlier one fewer
        TideMill x = dull();
        e.is(x, 5, "count", 6);
        e.is(x, 4, "dress", 0);
        e.is(x, 7, "dress", 1);
        x = dull(39, 39, 39, 39, 39, 39);
        e.is(x, 4, "dress", 0);
        e.is(x, 7, "dress", 1);
        x = Mills.told("", "o1000");
        e.is(x, 0, "dress", 0);
        e.is(x, 1, "dress", 1);
        // one in an HOUR that has one adds nothing
        x.dressing(0);
        e.is(x, 0, "dress", 0);
        e.is(x, 1, "dress", 1);
        e = Edge.of(20, "DRESS: which (what = 0), how many (1).");
        e.harmless(TideMill::new, 0, "dress", 0);
        e.harmless(TideMill::new, 0, "dress", 1);
        e.harmless(() -> dull(39, 39, 39, 39, 39, 39), 4, "dress", 0);
        e.harmless(() -> dull(39, 39, 39, 39, 39, 39), 7, "dress", 1);
        e = Edge.of(20, "BAD.");
        for (int what : new int[] {-1, 2, MIN, MAX}) {
            e.refused(TideMill::new, BAD, "dress", what);
            e.refused(Mills::full, BAD, "dress", what);
        }
    }

    /**
     * Oats that want no HEAD are ground in each HOUR up to 38: nine by a pond as high as the sea, thirty by what is left
     * and six rains. In HOUR 39 the sea is too high, so a DRESSING costs a sack in any HOUR but that.
     */
    private static void lastHourIsBest() {
        Edge e = Edge.of(20, "DRESS: the HOUR (0 to 39) for a DRESSING more");
        TideMill x = Mills.told("9".repeat(9) + "0".repeat(30) + "9", "o9390;o9390;o9390;o9390;o9390", 20, 4, 0, 0, 9);
        for (int hour = 12; hour <= 27; hour += 3) {
            x.rain(hour);
        }
        e.is(x, 39, "count", 6);
        e.is(x, 39, "dress", 0);
        e.is(x, 39, "dress", 1);
    }

    private static void least() {
        Edge e = Edge.of(21, "LEAST: the least START (0 to 20) by which all ORDERS END; NONE.");
        e.is(Mills.told("", "o1000", 10, 4, 0, 0), 0, "least");
        e.is(Mills.told("", "o1000", 10, 4, 0, 1), 1, "least");
        e.is(Mills.told("", "w3000"), 10, "least");
        e.is(Mills.told("", "w3000", 3), 10, "least");
        e.is(Mills.told("", "w6000"), 20, "least");
        e.is(Mills.told("", "w6000", 20, 4, 0, 3), NONE, "least");
        e.is(Mills.told("", "w7000"), NONE, "least");
        // all of them: with oats behind it the wheat wants one more; that all are late is no matter
        e.is(Mills.told("", "w3000;o1000"), 11, "least");
        e = Edge.of(21, "LEAST; NONE.");
        e.harmless(TideMill::new, 0, "least");
        e.harmless(() -> Mills.told("", "w6000", 7), 20, "least");
        e.harmless(() -> Mills.told("", "w7000", 7), NONE, "least");
    }

    private static void send() {
        Edge e = Edge.of(22, "SEND: the ORDER that had better not be, so that most is PAID by the others, "
                + "of like ones the least: which; how much; NONE: there are none.");
        sendIs(e, new TideMill(), NONE, NONE);
        sendIs(e, Mills.told("", "o1009"), 0, 0);
        sendIs(e, Mills.told("", "o1009;o1019"), 0, 9);
        sendIs(e, Mills.told("", "o1008;o1019"), 0, 9);
        sendIs(e, Mills.told("", "o1009;o1018"), 1, 9);
        sendIs(e, Mills.told("", "w3028;o1009"), 0, 9);
        sendIs(e, Mills.told("", "w3029;o1008"), 1, 9);
        sendIs(e, Mills.told("", "w9009;w9009"), 0, 0);
        sendIs(e, Mills.told("", "o1399;o1399;o1399;o1399;o1399;o1399;o1399;o1390", 20), 7, 63);
        sendIs(e, Mills.told("", "o1399;o1399;o1399;o1399;o1399;o1399;o1399;o1399", 20), 0, 63);
        e = Edge.of(22, "SEND: which (what = 0), how much (1); NONE.");
        e.harmless(TideMill::new, NONE, "send", 0);
        e.harmless(TideMill::new, NONE, "send", 1);
        e.harmless(() -> Mills.told("", "w3028;o1009"), 0, "send", 0);
        e.harmless(() -> Mills.told("", "w3028;o1009"), 9, "send", 1);
        e = Edge.of(22, "BAD.");
        for (int what : new int[] {-1, 2, MIN, MAX}) {
            e.refused(TideMill::new, BAD, "send", what);
            e.refused(Mills::full, BAD, "send", what);
        }
    }

    private static void sendIs(Edge e, TideMill x, int which, int much) {
        e.is(x, which, "send", 0);
        e.is(x, much, "send", 1);
    }
}
