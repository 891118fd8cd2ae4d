/** Mills that several tests make. */
final class Mills {
    static final String FULL_TIDES = "2103332101032303022102020301030200110231";
    static final String FULL_ORDERS = "w1203;r2321;r1261;w1276;o2312;w1031;r1006;w3217";

    private Mills() {
    }

    /** A mill with its texts typed, and as many of START, FLOW, LEAK, HEAD, SHARP as are given. */
    static TideMill told(String tides, String orders, int... dials) {
        TideMill x = new TideMill();
        type(x, 0, tides);
        type(x, 1, orders);
        for (int what = 0; what < dials.length; what++) {
            x.set(what, dials[what]);
        }
        return x;
    }

    static void type(TideMill x, int text, String s) {
        for (int i = 0; i < s.length(); i++) {
            Due.is("type " + s, x.type(text, s.charAt(i)), i + 1);
        }
    }

    /** All that can be full is full; SHEETS 0, 1, 2 are of FORMS 0, 1, 2, and SHEET 3 is LOST. */
    static TideMill full() {
        TideMill x = told(FULL_TIDES, FULL_ORDERS, 18, 6, 1, 2, 6);
        for (int i = 0; i < 6; i++) {
            x.rain(3 + 6 * i);
            x.dressing(5 + 6 * i);
        }
        for (int i = 0; i < 8; i++) {
            x.seen(i, x.at(i, 0));
        }
        int[] sizes = {5, 60, 4};
        for (int s = 0; s < 3; s++) {
            x.sheet(s, s, sizes[s]);
            x.put(s, s, 0, 11 + s);
            x.put(s, s, sizes[s] - 1, -7 - s);
        }
        return x;
    }
}
