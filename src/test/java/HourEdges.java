/** Boundary cases of what an HOUR brings, and of what is told of HOURS: promises 13 to 18. */
final class HourEdges {
    private static final int NONE = Edge.NONE, BAD = Edge.BAD;
    private static final int MIN = Edge.MIN, MAX = Edge.MAX;
    /** The sea stands above THE POND up to HOUR 38, so that grain that wants a HEAD waits for HOUR 39. */
    private static final String TO_THE_LAST_HOUR = "9".repeat(39);

    private HourEdges() {
    }

    static void run() {
        rise();
        rain();
        spill();
        leak();
        dressing();
        firstOrder();
        wants();
        dullness();
        grinds();
        lower();
        ending();
        behindAnHour();
        ends();
        paid();
        sums();
        late();
        refusals();
    }

    private static TideMill rained(TideMill x, int... hours) {
        for (int hour : hours) {
            x.rain(hour);
        }
        return x;
    }

    private static TideMill dressed(TideMill x, int... hours) {
        for (int hour : hours) {
            x.dressing(hour);
        }
        return x;
    }

    private static void rise() {
        Edge e = Edge.of(13, "THE POND becomes higher by as much as the sea stands above it, by FLOW at most;");
        int[][] startAndHigh = {{0, 4}, {5, 9}, {6, 10}, {7, 10}, {9, 10}, {10, 10}, {11, 11}, {20, 20}};
        for (int[] c : startAndHigh) {
            e.is(Mills.told("5", "", c[0]), c[1], "at", 0, 0);
        }
        e.is(Mills.told("9", "", 17, 1), 18, "at", 0, 0);
        e.is(Mills.told("9", "", 9, 9), 18, "at", 0, 0);
        e.is(Mills.told("9", "", 8, 9), 17, "at", 0, 0);
        e.is(Mills.told("0", "", 0, 9), 0, "at", 0, 0);
        e = Edge.of(13, "In an HOUR, one behind the other:");
        // 17 rises to 18, the rain makes 21, 1 spills, the leak takes 9, rye wants 3 above 18 and is not ground
        TideMill x = rained(Mills.told("9", "r1000", 17, 4, 9), 0);
        e.hour(x, 0, 11, 0, 0, 1, 0);
        e.is(x, 1, "spilt");
        // 10 and 3 for the rain, less 9 for the leak, are 4, as much as wheat wants; 3 less behind it
        e.hour(rained(Mills.told("", "w1000", 10, 4, 9), 0), 0, 1, 1, 0, 0, 0);
        e.hour(rained(Mills.told("", "w1000", 9, 4, 9), 0), 0, 3, 0, 0, 1, 0);
    }

    private static void rain() {
        Edge e = Edge.of(13, "by 3 for each RAIN of that HOUR;");
        e.is(rained(Mills.told("", "", 0), 0), 3, "at", 0, 0);
        e.is(rained(Mills.told("", "", 0), 0, 0), 6, "at", 0, 0);
        e.is(rained(Mills.told("", "", 0), 0, 0, 0, 0, 0, 0), 18, "at", 0, 0);
        TideMill x = rained(Mills.told("", "", 0), 39);
        e.is(x, 0, "at", 38, 0);
        e.is(x, 3, "at", 39, 0);
        x = rained(Mills.told("", "", 0), 1, 2);
        e.is(x, 0, "at", 0, 0);
        e.is(x, 3, "at", 1, 0);
        e.is(x, 6, "at", 2, 0);
    }

    private static void spill() {
        Edge e = Edge.of(16, "what is above 20 SPILLS.");
        int[][] startHighSpilt = {{16, 19, 0}, {17, 20, 0}, {18, 20, 1}, {20, 20, 3}};
        for (int[] c : startHighSpilt) {
            TideMill x = rained(Mills.told("", "", c[0]), 0);
            e.is(x, c[1], "at", 0, 0);
            e.is(x, c[2], "spilt");
        }
        e.is(rained(Mills.told("", "", 20), 5, 5, 5, 5, 5, 5), 18, "spilt");
        e.is(rained(Mills.told("", "", 20), 39), 3, "spilt");
        e.is(Mills.told("9", "", 20), 0, "spilt");
    }

    private static void leak() {
        Edge e = Edge.of(13, "Then it becomes lower by LEAK, 0 at least.");
        int[][] startAndHigh = {{20, 11}, {10, 1}, {9, 0}, {8, 0}, {1, 0}, {0, 0}};
        for (int[] c : startAndHigh) {
            e.is(Mills.told("", "", c[0], 4, 9), c[1], "at", 0, 0);
        }
        TideMill x = Mills.told("", "", 2, 4, 1);
        e.is(x, 1, "at", 0, 0);
        e.is(x, 0, "at", 1, 0);
        e.is(x, 0, "at", 39, 0);
        x = rained(Mills.told("", "", 20, 4, 1), 0);
        e.is(x, 19, "at", 0, 0);
        e.is(x, 3, "spilt");
    }

    private static void dressing() {
        Edge e = Edge.of(13, "Then, with a DRESSING in that HOUR (one or more), the stones are as sharp as at first, "
                + "and nothing is ground.");
        for (int n = 1; n <= 6; n++) {
            TideMill x = Mills.told("", "o9000", 20, 4, 0, 2, 1);
            for (int i = 0; i < n; i++) {
                x.dressing(3);
            }
            e.hour(x, 2, 17, 3, 0, 0, 3);
            e.hour(x, 3, 17, 3, NONE, 0, 0);
            e.hour(x, 4, 16, 4, 0, 0, 1);
            e.is(x, 0, "idle");
        }
        TideMill x = dressed(Mills.told("", "o1000", 20), 0, 39);
        e.hour(x, 0, 20, 0, NONE, 0, 0);
        e.hour(x, 1, 19, 1, 0, 0, 0);
        // the sea, a rain and the leak go on in it: 10, 14, 17, 16
        x = rained(dressed(Mills.told("9", "o1000", 10, 4, 1), 0), 0);
        e.hour(x, 0, 16, 0, NONE, 0, 0);
        // with no head there is no IDLE HOUR either
        e.hour(dressed(Mills.told("", "w1000", 0), 0), 0, 0, 0, NONE, 0, 0);
    }

    private static void firstOrder() {
        Edge e = Edge.of(13, "Else the first ORDER that has not ended is at the stones:");
        TideMill x = Mills.told("", "o1000;r1000;o2000", 20);
        int[] at = {0, 1, 2, 2, NONE, NONE};
        for (int hour = 0; hour < at.length; hour++) {
            e.is(x, at[hour], "at", hour, 2);
        }
        e.is(x, NONE, "at", 39, 2);
        // wheat that cannot be ground stays at the stones, though oats behind it could be
        x = Mills.told("", "w1000;o1000", 3);
        e.is(x, 0, "at", 0, 2);
        e.is(x, 0, "at", 39, 2);
        e.is(x, 0, "count", 6);
        x = Mills.told("", "o1390;o1390;o1390;o1390;o1390;o1390;o1390;o1390", 20);
        e.is(x, 7, "at", 7, 2);
        e.is(x, NONE, "at", 8, 2);
    }

    private static void wants() {
        Edge e = Edge.of(13, "it wants a HEAD, as told, and 2 more for wheat, 1 more for rye,");
        String[] orders = {"w1000", "r1000", "o1000"};
        for (int grain = 0; grain < 3; grain++) {
            for (int head : new int[] {0, 2, 9}) {
                int want = head + 2 - grain;
                e.is(Mills.told("", orders[grain], want, 4, 0, head), 1, "at", 0, 1);
                if (want > 0) {
                    e.is(Mills.told("", orders[grain], want - 1, 4, 0, head), 0, "at", 0, 1);
                }
            }
        }
    }

    private static void dullness() {
        Edge e = Edge.of(13, "and 1 more for each SHARP SACKS (whole) that were ground since the last DRESSING.");
        // oats want 2, and 3 behind 3 sacks: with 4 the third is ground at 2, with 5 the fourth is not, with 6 it is
        e.is(Mills.told("", "o9000", 4, 4, 0, 2, 3), 3, "count", 6);
        TideMill x = Mills.told("", "o9000", 5, 4, 0, 2, 3);
        e.hour(x, 1, 3, 2, 0, 0, 0);
        e.hour(x, 2, 2, 3, 0, 0, 1);
        e.hour(x, 3, 2, 3, 0, 1, 1);
        e.is(Mills.told("", "o9000", 6, 4, 0, 2, 3), 4, "count", 6);
        e.hour(dressed(x, 3), 3, 2, 3, NONE, 0, 0);
        e.hour(x, 4, 1, 4, 0, 0, 0);
        // one ORDER's sacks make the stones dull for the next
        e.is(Mills.told("", "o2000;o2000", 5, 4, 0, 2, 3), 3, "count", 6);
        // six sacks by SHARP 3 want 2 more
        e.is(Mills.told("", "o9000", 9, 4, 0, 2, 3), 6, "count", 6);
        e.is(Mills.told("", "o9000", 10, 4, 0, 2, 3), 7, "count", 6);
        // a DRESSING ahead of the first sack changes nothing, and none counts sacks ahead of it
        e.is(dressed(Mills.told("", "o9000", 5, 4, 0, 2, 3), 0), 3, "count", 6);
        e.is(dressed(Mills.told("", "o9000", 5, 4, 0, 2, 3), 2), 4, "count", 6);
    }

    private static void grinds() {
        Edge e = Edge.of(13, "If THE POND stands as high above the sea, or higher, a SACK is ground,");
        e.hour(Mills.told("4", "o1000", 10), 0, 9, 1, 0, 0, 0);
        e.hour(Mills.told("4", "o1000", 11), 0, 10, 1, 0, 0, 0);
        e.hour(Mills.told("4", "o1000", 9), 0, 9, 0, 0, 1, 0);
        e.hour(Mills.told("4", "o1000", 8, 4, 0, 0), 0, 7, 1, 0, 0, 0);
        e.hour(Mills.told("4", "o1000", 0, 8, 0, 0), 0, 7, 1, 0, 0, 0);
        e.hour(Mills.told("4", "o1000", 0, 7, 0, 0), 0, 7, 0, 0, 1, 0);
        e.hour(Mills.told("9", "o1000", 20), 0, 19, 1, 0, 0, 0);
        e.hour(Mills.told("9", "r1000", 20), 0, 20, 0, 0, 1, 0);
        e = Edge.of(13, "else the HOUR is IDLE.");
        TideMill x = dressed(Mills.told("", "o2000", 2), 5);
        e.is(x, 0, "at", 0, 3);
        e.is(x, 1, "at", 1, 3);
        e.is(x, 0, "at", 5, 3);
        e.is(x, 1, "at", 39, 3);
        e.is(x, 38, "idle");
        e.is(Mills.told("", "o1000", 2), 0, "idle");
    }

    private static void lower() {
        Edge e = Edge.of(13, "and it becomes lower by 3 for wheat, 2 for rye, 1 for oats, 0 at least;");
        String[] orders = {"w1000", "r1000", "o1000"};
        for (int grain = 0; grain < 3; grain++) {
            int takes = 3 - grain;
            e.hour(Mills.told("", orders[grain], 20), 0, 20 - takes, 1);
            e.hour(Mills.told("", orders[grain], takes + 1, 4, 0, 0), 0, 1, 1);
            e.hour(Mills.told("", orders[grain], takes, 4, 0, 0), 0, 0, 1);
            e.hour(Mills.told("", orders[grain], takes - 1, 4, 0, 0), 0, 0, 1);
        }
        // with no HEAD wanted oats are ground by an empty pond
        e.is(Mills.told("", "o9000", 0, 4, 0, 0, 9), 9, "count", 6);
    }

    private static void ending() {
        Edge e = Edge.of(14, "An ORDER ENDS in the HOUR in which its last SACK is ground.");
        e.is(Mills.told("", "o1000", 20), 0, "ends", 0);
        e.is(Mills.told("", "o9000", 20), 8, "ends", 0);
        TideMill x = Mills.told("", "o2000;o1000;o1000", 20);
        e.is(x, 1, "ends", 0);
        e.is(x, 2, "ends", 1);
        e.is(x, 3, "ends", 2);
        x = Mills.told(TO_THE_LAST_HOUR, "o1000");
        e.is(x, 39, "ends", 0);
        e.hour(x, 38, 18, 0, 0, 1, 0);
        e.hour(x, 39, 17, 1, 0, 0, 0);
        e.is(Mills.told(TO_THE_LAST_HOUR, "o2000"), NONE, "ends", 0);
        e.is(Mills.told(TO_THE_LAST_HOUR + "9", "o1000"), NONE, "ends", 0);
    }

    private static void behindAnHour() {
        TideMill x = dressed(Mills.told("", "w2000;o3000", 10, 4, 0, 2, 2), 1);
        int[][] due = {{7, 1, 0, 0, 0}, {7, 1, NONE, 0, 0}, {4, 2, 0, 0, 0}, {3, 3, 1, 0, 1}, {2, 4, 1, 0, 1}, {2, 4, 1, 1, 1}};
        String[] words = {"Behind an HOUR: how high THE POND is;", "how many SACKS are ground up to it;",
            "which ORDER was at the stones in it (NONE: none, a DRESSING);", "whether it was IDLE;",
            "how dull the stones are (by how many more HEAD they want)."};
        Edge whole = Edge.of(13, "How high THE POND is (what = 0), SACKS up to it (1), which ORDER is at the stones (2; NONE), "
                + "IDLE (3: 1, 0), how dull (4).");
        for (int what = 0; what < 5; what++) {
            Edge e = Edge.of(13, words[what]);
            for (int hour = 0; hour < due.length; hour++) {
                e.is(x, due[hour][what], "at", hour, what);
                whole.is(x, due[hour][what], "at", hour, what);
            }
            e.is(x, due[5][what], "at", 39, what);
            whole.is(x, due[5][what], "at", 39, what);
            e.is(new TideMill(), new int[] {10, 0, NONE, 0, 0}[what], "at", 0, what);
            e.is(new TideMill(), new int[] {10, 0, NONE, 0, 0}[what], "at", 39, what);
        }
        Edge e = Edge.of(13, words[2]);
        e.is(dressed(Mills.told("", "o1000"), 39), NONE, "at", 39, 2);
        e.is(Mills.told("", "w1000", 0), 0, "at", 39, 2);
        e = Edge.of(13, words[4]);
        e.is(Mills.told("", "o9000", 20, 4, 0, 2, 1), 9, "at", 39, 4);
        e.is(Mills.told("", "o9000", 20, 4, 0, 2, 9), 1, "at", 39, 4);
        e.is(Mills.told("", "o8000", 20, 4, 0, 2, 9), 0, "at", 39, 4);
    }

    private static void ends() {
        Edge e = Edge.of(14, "ENDS of an ORDER; NONE.");
        TideMill x = Mills.told("", "o1000;w1000;w3000", 20);
        e.is(x, 0, "ends", 0);
        e.is(x, 1, "ends", 1);
        e.is(x, 4, "ends", 2);
        x = Mills.told("", "o1000;w3000;o1000", 10);
        e.is(x, 0, "ends", 0);
        e.is(x, NONE, "ends", 1);
        e.is(x, NONE, "ends", 2);
        e = Edge.of(14, "ENDS; NONE.");
        x = Mills.told("", "o1390;o1390;o1390;o1390;o1390;o1390;o1390;w9390", 20);
        for (int order = 0; order < 7; order++) {
            e.is(x, order, "ends", order);
        }
        e.is(x, NONE, "ends", 7);
    }

    private static void paid() {
        Edge e = Edge.of(15, "PAID: the PAY of all ORDERS that END by the HOUR in which they are DUE.");
        e.is(Mills.told("", "o1007"), 7, "paid");
        e.is(dressed(Mills.told("", "o1007"), 0), 0, "paid");
        e.is(dressed(Mills.told("", "o1017"), 0), 7, "paid");
        e.is(dressed(Mills.told("", "o1027"), 0), 7, "paid");
        e.is(Mills.told("", "o1000"), 0, "paid");
        e.is(Mills.told(TO_THE_LAST_HOUR, "o1397"), 7, "paid");
        e.is(Mills.told(TO_THE_LAST_HOUR, "o1387"), 0, "paid");
        e.is(Mills.told(TO_THE_LAST_HOUR, "o2397"), 0, "paid");
        e.is(Mills.told("", "o1009;o1001;o1029"), 18, "paid");
        e = Edge.of(15, "PAID.");
        e.is(Mills.told("", "o1399;o1399;o1399;o1399;o1399;o1399;o1399;o1399", 20), 72, "paid");
        e.harmless(TideMill::new, 0, "paid");
        e.harmless(Mills::full, Mills.full().paid(), "paid");
    }

    private static void sums() {
        Edge e = Edge.of(16, "SPILT in all.");
        TideMill x = rained(Mills.told("", "", 18), 0, 7, 7, 39);
        e.is(x, 1 + 6 + 3, "spilt");
        e.is(rained(x, 39), 1 + 6 + 6, "spilt");
        e = Edge.of(16, "SPILT.");
        e.harmless(TideMill::new, 0, "spilt");
        e.harmless(Mills::full, Mills.full().spilt(), "spilt");
        e = Edge.of(17, "IDLE HOURS in all.");
        x = Mills.told("", "w1000", 0);
        e.is(x, 40, "idle");
        e.is(dressed(x, 7), 39, "idle");
        e.is(dressed(Mills.told("", "w1000", 0), 0, 0, 39), 38, "idle");
        e.is(Mills.told(TO_THE_LAST_HOUR, "o1000"), 39, "idle");
        e = Edge.of(17, "IDLE HOURS.");
        e.harmless(TideMill::new, 0, "idle");
        e.harmless(Mills::full, Mills.full().idle(), "idle");
    }

    private static void late() {
        Edge e = Edge.of(18, "LATE: ORDERS that do not END by then, as bits.");
        e.is(Mills.told("", "o1000"), 0, "late");
        e.is(dressed(Mills.told("", "o1009"), 0), 1, "late");
        e.is(dressed(Mills.told("", "o1019"), 0), 0, "late");
        e.is(Mills.told("", "w9390"), 1, "late");
        e.is(Mills.told(TO_THE_LAST_HOUR, "o1390;o1390"), 2, "late");
        e.is(Mills.told("", "o1000;o1000;o1020;o1000", 20), 2 + 8, "late");
        e.is(Mills.told("", "o1390;o1390;o1390;o1390;o1390;o1390;o1390;w9390", 20), 128, "late");
        e = Edge.of(18, "LATE, as bits.");
        e.is(Mills.told("", "w1000;w1000;w1000;w1000;w1000;w1000;w1000;w1000", 0), 255, "late");
        e.harmless(TideMill::new, 0, "late");
        e.harmless(Mills::full, Mills.full().late(), "late");
    }

    private static void refusals() {
        Edge e = Edge.of(13, "BAD.");
        for (int wrong : new int[] {-1, 40, MIN, MAX}) {
            for (int what = 0; what < 5; what++) {
                e.refused(Mills::full, BAD, "at", wrong, what);
            }
            e.refused(Mills::full, BAD, "at", wrong, 5);
        }
        for (int what : new int[] {-1, 5, MIN, MAX}) {
            e.refused(Mills::full, BAD, "at", 0, what);
            e.refused(Mills::full, BAD, "at", 39, what);
        }
        e = Edge.of(14, "BAD.");
        for (int order : new int[] {-1, 8, MIN, MAX}) {
            e.refused(Mills::full, BAD, "ends", order);
        }
        e.refused(TideMill::new, BAD, "ends", 0);
        e.refused(() -> Mills.told("", "o1000"), BAD, "ends", 1);
    }
}
