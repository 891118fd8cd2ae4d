import java.util.function.Supplier;

/** Boundary cases of what was SEEN and is guessed by it, of SHOWERS and of MOONS: promises 23 to 29. */
final class SeenEdges {
    private static final int BAD = Edge.BAD, FULL = Edge.FULL;
    private static final int MIN = Edge.MIN, MAX = Edge.MAX;
    private static final int ALL_FLOWS = 1022, ALL_STARTS = 2097151;
    private static final String ORDERS = "o3129;r4187;w3255;o9393;r9302";

    private SeenEdges() {
    }

    static void run() {
        seen();
        forget();
        never();
        flows();
        starts();
        ask();
        fractions();
        shower();
        showerRefused();
        lots();
        moon();
    }

    private static TideMill saw(TideMill x, int... hoursAndHighs) {
        for (int i = 0; i + 1 < hoursAndHighs.length; i += 2) {
            x.seen(hoursAndHighs[i], hoursAndHighs[i + 1]);
        }
        return x;
    }

    private static TideMill rained(TideMill x, int... hours) {
        for (int hour : hours) {
            x.rain(hour);
        }
        return x;
    }

    private static void seen() {
        Edge e = Edge.of(23, "SEEN, 8 at most: behind an HOUR THE POND was so high (0 to 20).");
        e.is(saw(new TideMill(), 39, 10), 1 << 10, "was", 1);
        e.is(saw(new TideMill(), 0, 0), 1, "was", 1);
        e.is(saw(new TideMill(), 0, 20), 1 << 20, "was", 1);
        e.is(saw(new TideMill(), 0, 10, 0, 10), 1 << 10, "was", 1);
        e.is(saw(new TideMill(), 0, 10, 0, 11), 0, "was", 1);
        // the eighth counts as the first does
        e.is(saw(new TideMill(), 0, 9, 0, 9, 0, 9, 0, 9, 0, 9, 0, 9, 0, 9), 1 << 9, "was", 1);
        e.is(saw(new TideMill(), 0, 9, 0, 9, 0, 9, 0, 9, 0, 9, 0, 9, 0, 9, 0, 8), 0, "was", 1);
        for (int high : new int[] {-1, 21, MIN, MAX}) {
            e.refused(TideMill::new, BAD, "seen", 0, high);
        }
        e = Edge.of(23, "SEEN more: how many.");
        TideMill x = new TideMill();
        for (int n = 1; n <= 8; n++) {
            e.is(x, n, "seen", n % 2 == 0 ? 0 : 39, n % 3 == 0 ? 0 : 20);
            e.is(x, n, "count", 7);
        }
        e = Edge.of(23, "BAD; FULL.");
        e.refused(Mills::full, FULL, "seen", 0, 0);
        e.refused(Mills::full, FULL, "seen", 39, 20);
        for (int hour : new int[] {-1, 40, MIN, MAX}) {
            e.refused(TideMill::new, BAD, "seen", hour, 0);
            e.refused(Mills::full, BAD, "seen", hour, 0);
        }
        for (int high : new int[] {-1, 21, MIN, MAX}) {
            e.refused(Mills::full, BAD, "seen", 0, high);
        }
    }

    private static void forget() {
        Edge e = Edge.of(24, "All SEEN are forgotten: how many.");
        e.harmless(TideMill::new, 0, "forget");
        TideMill x = saw(new TideMill(), 0, 9);
        e.is(x, 1, "forget");
        e.is(x, 0, "forget");
        x = Mills.full();
        e.is(x, 8, "forget");
        e.is(x, 0, "count", 7);
        e.is(x, ALL_STARTS, "was", 1);
        e.is(x, ALL_FLOWS, "was", 0);
        e.is(x, 63, "never");
        e.is(x, 6, "count", 4);
        for (int n = 1; n <= 8; n++) {
            e.is(x, n, "seen", 0, 0);
        }
        e.is(x, FULL, "seen", 0, 0);
        // what is SEEN behind it is not mixed with what was forgotten
        x = saw(new TideMill(), 0, 9, 5, 9);
        e.is(x, 2, "forget");
        e.is(saw(x, 39, 7), 1 << 7, "was", 1);
    }

    private static TideMill sixRains(int... hoursAndHighs) {
        return saw(rained(Mills.told("", "", 0), 0, 1, 2, 3, 4, 5), hoursAndHighs);
    }

    private static void never() {
        Edge e = Edge.of(25, "NEVER: RAINS each of which, had it alone not been, makes all that was SEEN come out so, as bits.");
        e.is(sixRains(), 63, "never");
        e.is(sixRains(0, 0), 1, "never");
        e.is(sixRains(4, 15), 32, "never");
        e.is(sixRains(5, 15), 63, "never");
        e.is(sixRains(2, 9, 39, 15), 8 + 16 + 32, "never");
        e.is(sixRains(2, 6, 39, 15), 1 + 2 + 4, "never");
        e.is(sixRains(39, 18), 0, "never");
        e.is(sixRains(39, 12), 0, "never");
        e.is(sixRains(0, 0, 0, 3), 0, "never");
        // a RAIN that spills whole is no loss
        e.is(saw(rained(Mills.told("", "", 20), 0), 0, 20), 1, "never");
        e = Edge.of(25, "NEVER, as bits.");
        e.harmless(TideMill::new, 0, "never");
        e.harmless(() -> saw(new TideMill(), 0, 10), 0, "never");
        e.harmless(() -> sixRains(5, 15), 63, "never");
    }

    private static void flows() {
        Edge e = Edge.of(26, "FLOWS: 1 to 9, in place of that told, likewise, as bits (bit 1 on).");
        for (int told = 1; told <= 9; told += 4) {
            e.is(Mills.told("9", "", 0, told), ALL_FLOWS, "was", 0);
            e.is(saw(Mills.told("9", "", 0, told), 0, 0), 0, "was", 0);
            e.is(saw(Mills.told("9", "", 0, told), 0, 1), 2, "was", 0);
            e.is(saw(Mills.told("9", "", 0, told), 0, 9), 512, "was", 0);
            e.is(saw(Mills.told("9", "", 0, told), 0, 10), 0, "was", 0);
            // from 12 on the sea is 6 above it, which 6 to 9 all fill
            e.is(saw(Mills.told("9", "", 12, told), 0, 18), 64 + 128 + 256 + 512, "was", 0);
        }
        e = Edge.of(26, "FLOWS (what = 0), STARTS (1), as bits.");
        e.harmless(TideMill::new, ALL_FLOWS, "was", 0);
        e.harmless(TideMill::new, ALL_STARTS, "was", 1);
        e.harmless(() -> saw(Mills.told("9", "", 3, 2), 0, 5), 4, "was", 0);
        e.harmless(() -> saw(Mills.told("9", "", 3, 2), 0, 5), 8, "was", 1);
        e = Edge.of(26, "BAD.");
        for (int what : new int[] {-1, 2, MIN, MAX}) {
            e.refused(TideMill::new, BAD, "was", what);
            e.refused(Mills::full, BAD, "was", what);
        }
    }

    private static void starts() {
        Edge e = Edge.of(26, "STARTS: 0 to 20, likewise, as bits.");
        for (int told = 0; told <= 20; told += 10) {
            e.is(Mills.told("", "", told), ALL_STARTS, "was", 1);
            e.is(saw(Mills.told("", "", told), 39, 0), 1, "was", 1);
            e.is(saw(Mills.told("", "", told), 39, 20), 1 << 20, "was", 1);
            e.is(saw(Mills.told("", "", told), 38, 0, 39, 20), 0, "was", 1);
            // a leak of 9 leaves nothing of 0 to 9
            e.is(saw(Mills.told("", "", told, 4, 9), 0, 0), 1023, "was", 1);
            e.is(saw(Mills.told("", "", told, 4, 9), 0, 11), 1 << 20, "was", 1);
            e.is(saw(Mills.told("", "", told, 4, 9), 2, 0), ALL_STARTS, "was", 1);
        }
    }

    /** STARTS 3 and 4 are both 3 behind HOUR 0, one with the oats ground: a rain tells them apart. */
    private static TideMill alike(int rain) {
        return saw(rained(Mills.told("", "o1000", 10, 4, 0, 4), rain), 0, 3);
    }

    private static void ask() {
        Edge e = Edge.of(27, "ASK: the HOUR behind which the greatest number of STARTS that make all SEEN come out so, "
                + "by which THE POND is as high, is least, of like ones the least.");
        e.is(alike(39), 24, "was", 1);
        e.is(alike(39), 39, "ask");
        e.is(alike(38), 38, "ask");
        e.is(alike(1), 1, "ask");
        // STARTS 0 and 1, 19 and 20: of two ends of the range
        e.is(saw(rained(Mills.told("", "o1000", 10, 4, 0, 1), 1), 0, 0), 1, "ask");
        e.is(saw(Mills.told("6", "o1000", 10, 4, 0, 8), 0, 19), 1, "ask");
        // two STARTS are alike behind every HOUR at first; below 0 and above 20 there is none that would make them three
        e.is(Mills.told("01", "o1000", 10, 1, 0, 1), 0, "ask");
        e.is(Mills.told("6", "o1000", 10, 1, 0, 8), 0, "ask");
        // in HOUR 1 six rains bring both to 20, and a DRESSING keeps the one that has its oats yet from grinding them
        TideMill x = rained(alike(1), 1, 1, 1, 1, 1);
        x.dressing(1);
        e.is(x, 20, "at", 1, 0);
        e.is(x, 2, "ask");
        // each START by itself, one START, and none: all HOURS are alike
        e.is(new TideMill(), 0, "ask");
        e.is(saw(new TideMill(), 39, 20), 0, "ask");
        e.is(saw(new TideMill(), 0, 0, 0, 1), 0, "ask");
        // with a leak STARTS fall together from the first HOUR on
        e.is(Mills.told("", "", 10, 4, 9), 0, "ask");
        // the greatest number counts: nine STARTS of 0 to 8 are 0 behind HOUR 0 as behind each other one
        e.is(saw(Mills.told("", "", 10, 4, 8), 0, 0), 0, "ask");
        e = Edge.of(27, "ASK.");
        e.harmless(() -> alike(39), 39, "ask");
        e.harmless(TideMill::new, 0, "ask");
        e.harmless(() -> saw(new TideMill(), 0, 0, 0, 1), 0, "ask");
    }

    private static void showerIs(Edge e, TideMill x, int c, int order, long above, long below) {
        e.is(x, above, "shower", c, order, 0);
        e.is(x, below, "shower", c, order, 1);
    }

    /** Oats that want 2, of an empty pond, by RAINS in these HOURS. */
    private static TideMill oats(String orders, int... rains) {
        return rained(Mills.told("", orders, 0), rains);
    }

    private static void fractions() {
        Edge e = Edge.of(28, "FRACTIONS are told in lowest terms, above and below (0 by 1).");
        TideMill x = oats("o1000", 0);
        showerIs(e, x, 0, 0, 0, 1);
        showerIs(e, x, 1, 0, 1, 16);
        showerIs(e, x, 2, 0, 1, 8);
        showerIs(e, x, 4, 0, 1, 4);
        showerIs(e, x, 6, 0, 3, 8);
        showerIs(e, x, 8, 0, 1, 2);
        showerIs(e, x, 12, 0, 3, 4);
        showerIs(e, x, 15, 0, 15, 16);
        showerIs(e, x, 16, 0, 1, 1);
        showerIs(e, oats("o1000"), 5, 0, 0, 1);
        showerIs(e, oats("o1000", 1, 1, 1, 1, 1, 1), 5, 0, 0, 1);
        x = Mills.told("", "o1000", 20);
        showerIs(e, x, 5, 0, 1, 1);
        showerIs(e, rained(x, 0, 0, 0, 0, 0, 0), 5, 0, 1, 1);
    }

    private static void shower() {
        Edge e = Edge.of(28, "SHOWER: each of RAINS is by c sixteenths (0 to 16), by itself: the chance that an ORDER is PAID "
                + "(ENDS by the HOUR in which it is DUE): a FRACTION.");
        showerIs(e, oats("o1000", 0, 0), 8, 0, 3, 4);
        showerIs(e, oats("o1000", 0, 0), 5, 0, 135, 256);
        showerIs(e, oats("o1000", 0, 0, 0, 0, 0, 0), 0, 0, 0, 1);
        showerIs(e, oats("o1000", 0, 0, 0, 0, 0, 0), 5, 0, 16777216 - 1771561, 16777216);
        showerIs(e, oats("o1000", 0, 0, 0, 0, 0, 0), 16, 0, 1, 1);
        // in the HOUR in which it is DUE, and not behind it, whatever the PAY
        showerIs(e, oats("o1009", 1), 8, 0, 0, 1);
        showerIs(e, oats("o1010", 1), 8, 0, 1, 2);
        showerIs(e, oats("o1399", 39), 3, 0, 3, 16);
        // one rain brings both sacks: the first wants that of HOUR 0, the second either of them
        showerIs(e, oats("o1000;o1390", 0, 9), 4, 0, 1, 4);
        showerIs(e, oats("o1000;o1390", 0, 9), 4, 1, 7, 16);
        TideMill all = rained(Mills.told("", "w1000", 0, 4, 5, 9), 0, 0, 0, 0, 0, 0);
        showerIs(e, all, 1, 0, 1, 16777216);
        showerIs(e, all, 8, 0, 1, 64);
        showerIs(e, all, 15, 0, 11390625, 16777216);
        showerIs(e, all, 16, 0, 1, 1);
        e = Edge.of(28, "SHOWER: above, below.");
        e.harmless(() -> oats("o1000;o1390", 0, 0), 135, "shower", 5, 0, 0);
        e.harmless(() -> oats("o1000;o1390", 0, 0), 256, "shower", 5, 0, 1);
        TideMill eight = Mills.told("", "o1390;o1390;o1390;o1390;o1390;o1390;o1390;o1390", 20);
        showerIs(e, eight, 16, 7, 1, 1);
    }

    private static void showerRefused() {
        Edge e = Edge.of(28, "BAD.");
        for (int c : new int[] {-1, 17, MIN, MAX}) {
            e.refused(Mills::full, Edge.LONG_BAD, "shower", c, 0, 0);
            e.refused(Mills::full, Edge.LONG_BAD, "shower", c, 0, 1);
        }
        for (int order : new int[] {-1, 8, MIN, MAX}) {
            e.refused(Mills::full, Edge.LONG_BAD, "shower", 5, order, 0);
            e.refused(Mills::full, Edge.LONG_BAD, "shower", 5, order, 1);
        }
        for (int what : new int[] {-1, 2, MIN, MAX}) {
            e.refused(Mills::full, Edge.LONG_BAD, "shower", 5, 0, what);
        }
        e.refused(TideMill::new, Edge.LONG_BAD, "shower", 0, 0, 0);
        e.refused(() -> oats("o1000"), Edge.LONG_BAD, "shower", 0, 1, 0);
        e = Edge.of(28, "(As the least long.)");
        e.refused(TideMill::new, Long.MIN_VALUE + 2, "shower", 5, 0, 0);
        e = Edge.of(28, "Where the answer is a long, a refusal -x is the least long and x more.");
        e.refused(Mills::full, -9223372036854775806L, "shower", 17, 0, 0);
    }

    /** The LOTS of 10 in longs, which need not wrap. */
    private static String lotsOf(int seed, int n) {
        StringBuilder lots = new StringBuilder();
        long s = seed & 0xffffffffL;
        for (int i = 0; i < n; i++) {
            s = (1103515245L * s + 12345) % 4294967296L;
            lots.append(s / 65536 % 10);
        }
        return lots.toString();
    }

    private static void moonIs(Edge e, int seed, String lots, Supplier<TideMill> maker) {
        TideMill due = maker.get();
        due.wipe(0);
        Mills.type(due, 0, lots);
        e.is(maker.get(), due.count(6), "moon", seed, lots.length(), 0);
        e.is(maker.get(), due.paid(), "moon", seed, lots.length(), 1);
    }

    private static void lots() {
        Edge e = Edge.of(29, "LOTS of m: SEED becomes 1103515245 SEED and 12345, as ints that wrap; "
                + "its upper 16 bits as a number from 0 on, modulo m.");
        // by hand: 1103527590 has 16838 above, 4294967296 - 1103502900 has 48697, 2147495993 has 32768
        e.holds("lots by hand", lotsOf(0, 1).equals("0") && lotsOf(1, 1).equals("8") && lotsOf(-1, 1).equals("7")
                && lotsOf(MIN, 1).equals("8"));
        for (int seed : new int[] {0, 1, 2, 7, -1, -2, MIN, MIN + 1, MAX, MAX - 1, 65535, 65536, -65536, 123456789}) {
            for (int n : new int[] {1, 2, 7, 20, 39, 40}) {
                moonIs(e, seed, lotsOf(seed, n), () -> Mills.told("", ORDERS, 12, 3, 1, 2, 5));
            }
        }
    }

    private static void moon() {
        Edge e = Edge.of(29, "MOON by a SEED: n LOTS of 10 (0 to 40) are TIDES, in place of those told (0 in later HOURS): "
                + "how many SACKS are ground; how much is PAID.");
        String nines = "9".repeat(40);
        for (int seed : new int[] {0, 7, MIN, MAX}) {
            moonIs(e, seed, "", () -> Mills.told(nines, ORDERS, 20));
            moonIs(e, seed, lotsOf(seed, 1), () -> Mills.told(nines, ORDERS, 20));
            moonIs(e, seed, lotsOf(seed, 40), () -> Mills.told(nines, ORDERS, 0));
            moonIs(e, seed, lotsOf(seed, 30), () -> Mills.told("9x", ORDERS, 5));
        }
        // with no LOTS the sea stands at 0: oats that no sea told lets be ground are
        e.is(Mills.told(nines, "o1005"), 0, "count", 6);
        e.is(Mills.told(nines, "o1005"), 1, "moon", 1, 0, 0);
        e.is(Mills.told(nines, "o1005"), 5, "moon", 1, 0, 1);
        // the first LOT of 1 is 8: the oats are ground in HOUR 1, with the sea at 0 again, and are late
        e.is(Mills.told(nines, "o1005"), 1, "moon", 1, 1, 0);
        e.is(Mills.told(nines, "o1005"), 0, "moon", 1, 1, 1);
        // behind 30 LOTS the sea stands at 0 in HOUR 30, for oats that want all that six rains bring; the next LOT is above 0
        TideMill x = rained(Mills.told("", "o1309", 0, 1, 9, 9), 30, 30, 30, 30, 30, 30);
        e.holds("the 31st lot of 7 is above 0", lotsOf(7, 31).charAt(30) > '0');
        e.is(x, 9, "moon", 7, 30, 1);
        e.is(x, 0, "moon", 7, 31, 1);
        Edge.of(37, "moon(7, 30, 0 and 1)").is(x, View.digestOf(x), "digest");
        e = Edge.of(29, "MOON: how many (what = 0), how much (1).");
        e.harmless(TideMill::new, 0, "moon", 7, 40, 0);
        e.harmless(TideMill::new, 0, "moon", 7, 0, 1);
        e.harmless(Mills::full, Mills.full().moon(7, 30, 0), "moon", 7, 30, 0);
        e.harmless(Mills::full, Mills.full().moon(7, 30, 1), "moon", 7, 30, 1);
        e = Edge.of(29, "BAD.");
        for (int n : new int[] {-1, 41, MIN, MAX}) {
            e.refused(Mills::full, BAD, "moon", 7, n, 0);
            e.refused(Mills::full, BAD, "moon", 7, n, 1);
        }
        for (int what : new int[] {-1, 2, MIN, MAX}) {
            e.refused(Mills::full, BAD, "moon", 7, 30, what);
            e.refused(Mills::full, BAD, "moon", 7, 41, what);
        }
    }
}
