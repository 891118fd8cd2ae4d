/** Each promise by itself: plain cases reckoned by hand from the document, its edges, and wrong inputs. */
public final class PromiseTest {
    private static final int NONE = -1, BAD = -2, NOT = -3, FULL = -4;
    private static final int NULL = -11, INDEX = -12, CAST = -13, STORE = -14, SIZE = -15;
    private static final int LEAST_INT = Integer.MIN_VALUE;
    private static final int START = 0, FLOW = 1, HEAD = 3;
    private static final int[] WRONG = {-1, Integer.MIN_VALUE, Integer.MAX_VALUE};

    private PromiseTest() {
    }

    private static void counts(TideMill x, int... due) {
        for (int what = 0; what < due.length; what++) {
            Due.is("count(" + what + ")", x.count(what), due[what]);
        }
    }

    private static void newObject1() {
        TideMill x = new TideMill();
        counts(x, 0, 0, 0, 0, 0, 0, 0, 0, 0);
        for (int s = 0; s < 4; s++) {
            Due.is("1 lose", x.lose(s), NULL);
        }
        int[] first = {10, 4, 0, 2, 5};
        for (int what = 0; what < 5; what++) {
            Due.is("1 set", x.set(what, 1), first[what]);
        }
        Due.is("1 sea", x.sea(39), 0);
        Due.is("1 order", x.order(0, 0), BAD);
    }

    private static void type2() {
        TideMill x = new TideMill();
        for (int text : new int[] {-1, 2, Integer.MIN_VALUE, Integer.MAX_VALUE}) {
            Due.is("2 type", x.type(text, 48), BAD);
        }
        for (int b : new int[] {-1, 256, Integer.MIN_VALUE, Integer.MAX_VALUE}) {
            Due.is("2 type", x.type(0, b), BAD);
            Due.is("2 type", x.type(1, b), BAD);
        }
        Due.is("2 type", x.type(0, 0), 1);
        Due.is("2 type", x.type(0, 255), 2);
        for (int n = 3; n <= 40; n++) {
            Due.is("2 type", x.type(0, 49), n);
        }
        for (int n = 1; n <= 47; n++) {
            Due.is("2 type", x.type(1, 255), n);
        }
        Due.is("2 type", x.type(0, 49), FULL);
        Due.is("2 type", x.type(1, 49), FULL);
        Due.is("2 type", x.type(0, 256), BAD);
        counts(x, 0, 0, 40, 47);
    }

    private static void wipe3() {
        TideMill x = Mills.told("159", "w1000");
        x.rain(3);
        Due.is("3 wipe", x.wipe(-1), BAD);
        Due.is("3 wipe", x.wipe(2), BAD);
        Due.is("3 wipe", x.wipe(0), 3);
        Due.is("3 sea", x.sea(2), 0);
        counts(x, 0, 1, 0, 5, 1);
        Due.is("3 wipe", x.wipe(1), 5);
        Due.is("3 wipe", x.wipe(1), 0);
        counts(x, 0, 0, 0, 0, 1);
    }

    private static void undo4() {
        TideMill x = Mills.told("15x", "o1000;");
        Due.is("4 undo", x.undo(-1), BAD);
        Due.is("4 undo", x.undo(2), BAD);
        Due.is("4 sea", x.sea(1), 0);
        Due.is("4 undo", x.undo(0), 2);
        Due.is("4 sea", x.sea(1), 10);
        Due.is("4 count", x.count(1), 0);
        Due.is("4 undo", x.undo(1), 5);
        Due.is("4 count", x.count(1), 1);
        Due.is("4 undo", x.undo(0), 1);
        Due.is("4 undo", x.undo(0), 0);
        Due.is("4 undo", x.undo(0), NOT);
        Due.is("4 count", x.count(3), 5);
    }

    private static void fault5() {
        faultIs(0, "", NONE);
        faultIs(0, "0123456789", NONE);
        faultIs(0, "/", 0);
        faultIs(0, "0:", 1);
        faultIs(0, "01\u00b22", 2);
        faultIs(1, "", NONE);
        faultIs(1, "o9390", NONE);
        String[] broken = {"x", "W", "w", "w0", "w:", "w1", "w14", "w1/", "w13", "w13/", "w13:", "w139", "w139x", "w139;"};
        int[] place = {0, 0, 1, 1, 1, 2, 2, 2, 3, 3, 3, 4, 4, 4};
        for (int i = 0; i < broken.length; i++) {
            faultIs(1, broken[i], place[i]);
            faultIs(1, "r5208;" + broken[i], 6 + place[i]);
        }
        faultIs(1, ";", 0);
        faultIs(1, "r5208;", 6);
        faultIs(1, "r5208,", 5);
        faultIs(1, "r5208r", 5);
        faultIs(1, "r5208;;", 6);
        faultIs(1, "w1000;r2111;o3222;w4333;r5044;o6155;w7266;r8377", NONE);
        faultIs(1, "w1000;r2111;o3222;w4333;r5044;o6155;w7266;r837", 46);
        faultIs(1, "w1000;r2111;o3222;w4333;r5044;o6155;w7266;", 42);
        Due.is("5 fault", new TideMill().fault(2), BAD);
        Due.is("5 fault", new TideMill().fault(-1), BAD);
    }

    private static void faultIs(int text, String s, int due) {
        TideMill x = new TideMill();
        Mills.type(x, text, s);
        Due.is("5 fault " + s, x.fault(text), due);
        int told = due != NONE ? 0 : text == 0 ? s.length() : (s.length() + 1) / 6;
        Due.is("5 count " + s, x.count(text), told);
    }

    private static void sea6() {
        TideMill x = Mills.told("0123456789", "");
        for (int hour = 0; hour < 40; hour++) {
            Due.is("6 sea", x.sea(hour), hour < 10 ? 2 * hour : 0);
        }
        for (int hour : new int[] {-1, 40, Integer.MIN_VALUE, Integer.MAX_VALUE}) {
            Due.is("6 sea", x.sea(hour), BAD);
        }
        x.type(0, 'x');
        Due.is("6 sea", x.sea(9), 0);
    }

    private static void order7() {
        TideMill x = Mills.told("", "w1000;r5207;o9399");
        int[][] due = {{0, 1, 0, 0}, {1, 5, 20, 7}, {2, 9, 39, 9}};
        for (int order = 0; order < 3; order++) {
            for (int what = 0; what < 4; what++) {
                Due.is("7 order", x.order(order, what), due[order][what]);
            }
        }
        Due.is("7 order", x.order(3, 0), BAD);
        Due.is("7 order", x.order(0, 4), BAD);
        for (int wrong : WRONG) {
            Due.is("7 order", x.order(wrong, 0), BAD);
            Due.is("7 order", x.order(0, wrong), BAD);
        }
        x.type(1, ';');
        Due.is("7 order", x.order(0, 0), BAD);
    }

    private static void set8() {
        TideMill x = new TideMill();
        int[] least = {0, 1, 0, 0, 1};
        int[] most = {20, 9, 9, 9, 9};
        int[] was = {10, 4, 0, 2, 5};
        for (int what = 0; what < 5; what++) {
            Due.is("8 set", x.set(what, least[what] - 1), BAD);
            Due.is("8 set", x.set(what, most[what] + 1), BAD);
            Due.is("8 set", x.set(what, Integer.MIN_VALUE), BAD);
            Due.is("8 set", x.set(what, Integer.MAX_VALUE), BAD);
            Due.is("8 set", x.set(what, least[what]), was[what]);
            Due.is("8 set", x.set(what, most[what]), least[what]);
            Due.is("8 set", x.set(what, most[what]), most[what]);
        }
        Due.is("8 set", x.set(5, 1), BAD);
        for (int wrong : WRONG) {
            Due.is("8 set", x.set(wrong, 1), BAD);
        }
    }

    private static void rain9() {
        TideMill x = new TideMill();
        Due.is("9 rain", x.rain(-1), BAD);
        Due.is("9 rain", x.rain(40), BAD);
        int[] hours = {0, 39, 5, 5, 7, 8};
        for (int i = 0; i < 6; i++) {
            Due.is("9 rain", x.rain(hours[i]), i + 1);
        }
        Due.is("9 rain", x.rain(0), FULL);
        Due.is("9 rain", x.rain(40), BAD);
        Due.is("9 count", x.count(4), 6);
        Due.is("9 at", x.at(0, 0), 13);
        Due.is("9 at", x.at(5, 0), 19);
        Due.is("9 at", x.at(7, 0), 20);
        Due.is("9 spilt", x.spilt(), 8);
    }

    private static void dressing10() {
        TideMill x = Mills.told("", "o3394");
        Due.is("10 dressing", x.dressing(-1), BAD);
        Due.is("10 dressing", x.dressing(40), BAD);
        int[] hours = {0, 0, 39, 1, 3, 3};
        for (int i = 0; i < 6; i++) {
            Due.is("10 dressing", x.dressing(hours[i]), i + 1);
        }
        Due.is("10 dressing", x.dressing(0), FULL);
        Due.is("10 dressing", x.dressing(40), BAD);
        Due.is("10 count", x.count(5), 6);
        Due.is("10 ends", x.ends(0), 5);
    }

    private static void back11() {
        TideMill x = new TideMill();
        Due.is("11 back", x.back(0), NOT);
        Due.is("11 back", x.back(1), NOT);
        Due.is("11 back", x.back(2), BAD);
        Due.is("11 back", x.back(-1), BAD);
        x.rain(0);
        x.rain(1);
        x.dressing(2);
        Due.is("11 at", x.at(1, 0), 16);
        Due.is("11 back", x.back(0), 1);
        Due.is("11 at", x.at(1, 0), 13);
        Due.is("11 back", x.back(1), 0);
        Due.is("11 back", x.back(1), NOT);
        Due.is("11 back", x.back(0), 0);
        Due.is("11 back", x.back(0), NOT);
        counts(x, 0, 0, 0, 0, 0, 0);
    }

    private static void read12() {
        TideMill x = new TideMill();
        Due.is("12 read", x.read(-1), BAD);
        Due.is("12 read", x.read(4), BAD);
        x.rain(7);
        Due.is("12 read", x.read(0), NULL);
        counts(x, 0, 0, 0, 0, 1, 0, 0, 0, 1);
        x.sheet(0, 1, 8);
        for (int i = 0; i < 8; i++) {
            x.put(0, 1, i, i);
        }
        Due.is("12 read behind one", x.read(0), 5);
        Due.is("12 count", x.count(4), 6);
        Due.is("12 at", x.at(0, 0), 13);
        Due.is("12 at", x.at(2, 0), 19);
        Due.is("12 spilt", x.spilt(), 8);
        Due.is("12 read when full", x.read(0), 0);
        counts(x, 0, 0, 0, 0, 6, 0, 0, 0, 1);
        Due.is("12 the read ones are the last", x.back(0), 5);
        Due.is("12 spilt", x.spilt(), 5);
        x.put(0, 1, 0, 9);
        Due.is("12 read for the last room", x.read(0), 1);
        Due.is("12 spilt", x.spilt(), 8);
        readStops();
        readNothing();
    }

    private static void readStops() {
        TideMill x = new TideMill();
        x.sheet(1, 2, 4);
        x.put(1, 2, 0, 39);
        x.put(1, 2, 1, 38);
        x.put(1, 2, 2, 40);
        Due.is("12 read up to 40", x.read(1), 2);
        Due.is("12 at", x.at(37, 0), 10);
        Due.is("12 at", x.at(38, 0), 13);
        Due.is("12 at", x.at(39, 0), 16);
        x.put(1, 2, 1, -1);
        Due.is("12 read up to -1", x.read(1), 1);
        Due.is("12 at", x.at(39, 0), 19);
        x.put(1, 2, 0, -1);
        Due.is("12 read none", x.read(1), 0);
        Due.is("12 count", x.count(4), 3);
    }

    private static void readNothing() {
        TideMill x = new TideMill();
        x.rain(5);
        x.sheet(2, 2, 0);
        Due.is("12 read an empty sheet", x.read(2), 0);
        Due.is("12 count", x.count(4), 1);
        Due.is("12 at", x.at(5, 0), 13);
    }

    private static void at13() {
        TideMill x = Mills.told("", "w4399");
        int[][] due = {{7, 1, 0, 0, 0}, {4, 2, 0, 0, 0}, {1, 3, 0, 0, 0}, {1, 3, 0, 1, 0}};
        hoursAre("13 wheat", x, due);
        x = Mills.told("", "o6399", 10, 4, 0, 2, 1);
        x.dressing(5);
        hoursAre("13 dull", x, new int[][] {{9, 1, 0, 0, 1}, {8, 2, 0, 0, 2}, {7, 3, 0, 0, 3}, {6, 4, 0, 0, 4},
            {5, 5, 0, 0, 5}, {5, 5, NONE, 0, 0}, {4, 6, 0, 0, 1}, {4, 6, NONE, 0, 1}});
        x = Mills.told("", "o9399", 10, 4, 0, 2, 1);
        hoursAre("13 too dull", x, new int[][] {{9, 1, 0, 0, 1}, {8, 2, 0, 0, 2}, {7, 3, 0, 0, 3}, {6, 4, 0, 0, 4},
            {5, 5, 0, 0, 5}, {5, 5, 0, 1, 5}});
        x = Mills.told("34", "w1399");
        hoursAre("13 head", x, new int[][] {{7, 1, 0, 0, 0}, {8, 1, NONE, 0, 0}});
        x = Mills.told("4", "w1399");
        hoursAre("13 no head", x, new int[][] {{10, 0, 0, 1, 0}, {7, 1, 0, 0, 0}});
        x = Mills.told("", "w1399", 2, 4, 0, 0);
        hoursAre("13 not below 0", x, new int[][] {{0, 1, 0, 0, 0}});
        x = Mills.told("", "r3399", 9, 1, 1, 5);
        hoursAre("13 rye", x, new int[][] {{6, 1, 0, 0, 0}, {5, 1, 0, 1, 0}, {4, 1, 0, 1, 0}, {3, 1, 0, 1, 0},
            {2, 1, 0, 1, 0}, {1, 1, 0, 1, 0}, {0, 1, 0, 1, 0}, {0, 1, 0, 1, 0}});
        Due.is("13 rye at its least head", Mills.told("", "r1399", 3).at(0, 1), 1);
        Due.is("13 rye below its least head", Mills.told("", "r1399", 2).at(0, 1), 0);
        x = Mills.told("99", "", 17, 4, 9);
        x.rain(0);
        hoursAre("13 rise, rain, leak", x, new int[][] {{11, 0, NONE, 0, 0}, {6, 0, NONE, 0, 0}, {0, 0, NONE, 0, 0}});
        Due.is("13 spilt", x.spilt(), 1);
        for (int wrong : new int[] {-1, 40, Integer.MIN_VALUE, Integer.MAX_VALUE}) {
            Due.is("13 at", x.at(wrong, 0), BAD);
            Due.is("13 at", x.at(0, wrong), BAD);
        }
        Due.is("13 at", x.at(0, 5), BAD);
    }

    private static void hoursAre(String name, TideMill x, int[][] due) {
        for (int hour = 0; hour < due.length; hour++) {
            for (int what = 0; what < 5; what++) {
                Due.is(name + " at(" + hour + ", " + what + ")", x.at(hour, what), due[hour][what]);
            }
        }
    }

    private static void hours14to18() {
        TideMill x = Mills.told("", "w3018;o1395;w1021");
        x.rain(5);
        Due.is("14 ends", x.ends(0), 2);
        Due.is("14 ends", x.ends(1), 5);
        Due.is("14 ends", x.ends(2), NONE);
        for (int wrong : new int[] {-1, 3, 8, Integer.MIN_VALUE, Integer.MAX_VALUE}) {
            Due.is("14 ends", x.ends(wrong), BAD);
        }
        Due.is("15 paid", x.paid(), 5);
        Due.is("16 spilt", x.spilt(), 0);
        Due.is("17 idle", x.idle(), 36);
        Due.is("18 late", x.late(), 5);
        Due.is("count 6", x.count(6), 4);
        x.set(START, 20);
        x.back(0);
        x.rain(0);
        x.rain(0);
        Due.is("14 ends", x.ends(2), 4);
        Due.is("15 paid", x.paid(), 5);
        Due.is("16 spilt", x.spilt(), 6);
        Due.is("17 idle", x.idle(), 0);
        Due.is("18 late", x.late(), 5);
        x = Mills.told("", "w3028;w1399");
        Due.is("17 idle", x.idle(), 37);
        x.set(START, 20);
        x.rain(0);
        Due.is("16 spilt", x.spilt(), 3);
        x = Mills.told("", "w3028");
        Due.is("15 paid in the hour in which it is due", x.paid(), 8);
        Due.is("18 late", x.late(), 0);
        x.dressing(0);
        Due.is("15 paid", x.paid(), 0);
        Due.is("18 late", x.late(), 1);
        x = Mills.told("", "o1390;o1390;o1390;o1390;o1390;o1390;o1390;w9390");
        Due.is("18 late", x.late(), 128);
    }

    private static void row19() {
        TideMill x = Mills.told("", "w3028;o1009");
        rowIs(x, 9, 1, 0);
        x.wipe(1);
        Mills.type(x, 1, "w3029;o1009");
        rowIs(x, 9, 0, 1);
        x.wipe(1);
        rowIs(x, NONE);
        x = Mills.told("", "o1070;o1060;o1059;o1049;o1039;o1029;o1019;o1009", 20);
        rowIs(x, 54, 7, 6, 5, 4, 3, 2, 0, 1);
        x = Mills.told("", "o1001;o1001;o1001");
        rowIs(x, 1, 0, 1, 2);
        x.dressing(0);
        rowIs(x, 0, 0, 1, 2);
        Due.is("19 row", x.row(-1), BAD);
        Due.is("19 row", x.row(9), BAD);
    }

    private static void rowIs(TideMill x, int much, int... row) {
        Due.is("19 row(0)", x.row(0), much);
        for (int i = 0; i < 8; i++) {
            Due.is("19 row(" + (1 + i) + ")", x.row(1 + i), i < row.length ? row[i] : NONE);
        }
    }

    private static void dress20() {
        TideMill x = Mills.told("", "o9399", 10, 4, 0, 2, 1);
        Due.is("20 dress", x.dress(0), 4);
        Due.is("20 dress", x.dress(1), 7);
        for (int i = 0; i < 6; i++) {
            x.dressing(39);
        }
        Due.is("20 dress", x.dress(0), 4);
        Due.is("20 dress", x.dress(1), 7);
        counts(x, 0, 1, 0, 5, 0, 6, 5);
        x = Mills.told("", "o1399");
        Due.is("20 dress", x.dress(0), 0);
        Due.is("20 dress", x.dress(1), 1);
        Due.is("20 dress", x.dress(-1), BAD);
        Due.is("20 dress", x.dress(2), BAD);
    }

    private static void least21() {
        TideMill x = Mills.told("", "w3009");
        Due.is("21 least", x.least(), 10);
        x.set(START, 3);
        Due.is("21 least", x.least(), 10);
        Due.is("21 set", x.set(START, 3), 3);
        x = Mills.told("", "w6009");
        Due.is("21 least", x.least(), 20);
        x = Mills.told("", "w7009");
        Due.is("21 least", x.least(), NONE);
        x = Mills.told("99", "o1009");
        Due.is("21 least", x.least(), 0);
        Due.is("21 least", new TideMill().least(), 0);
    }

    private static void send22() {
        TideMill x = Mills.told("", "w3028;o1009");
        Due.is("22 send", x.send(0), 0);
        Due.is("22 send", x.send(1), 9);
        x = Mills.told("", "o1001;o1001");
        Due.is("22 send", x.send(0), 0);
        Due.is("22 send", x.send(1), 1);
        x = Mills.told("", "o1009;w9391;o1019");
        Due.is("22 send", x.send(0), 1);
        Due.is("22 send", x.send(1), 18);
        x = Mills.told("", "o1009");
        Due.is("22 send", x.send(0), 0);
        Due.is("22 send", x.send(1), 0);
        x.wipe(1);
        Due.is("22 send", x.send(0), NONE);
        Due.is("22 send", x.send(1), NONE);
        Due.is("22 send", x.send(2), BAD);
        Due.is("22 send", x.send(-1), BAD);
    }

    private static void seen23forget24() {
        TideMill x = new TideMill();
        Due.is("24 forget", x.forget(), 0);
        Due.is("23 seen", x.seen(-1, 0), BAD);
        Due.is("23 seen", x.seen(40, 0), BAD);
        Due.is("23 seen", x.seen(0, -1), BAD);
        Due.is("23 seen", x.seen(0, 21), BAD);
        for (int i = 1; i <= 8; i++) {
            Due.is("23 seen", x.seen(39, i <= 4 ? 20 : 0), i);
        }
        Due.is("23 seen", x.seen(0, 10), FULL);
        Due.is("23 seen", x.seen(40, 10), BAD);
        Due.is("23 count", x.count(7), 8);
        Due.is("24 forget", x.forget(), 8);
        Due.is("24 forget", x.forget(), 0);
        Due.is("24 was", x.was(1), (1 << 21) - 1);
        Due.is("23 seen", x.seen(0, 10), 1);
    }

    private static void never25() {
        TideMill x = new TideMill();
        Due.is("25 never", x.never(), 0);
        x.rain(1);
        x.rain(1);
        Due.is("25 never", x.never(), 3);
        x.seen(1, 13);
        Due.is("25 never", x.never(), 3);
        x.seen(2, 16);
        Due.is("25 never", x.never(), 0);
        x.rain(2);
        Due.is("25 never", x.never(), 3);
        x.forget();
        x.seen(39, 16);
        Due.is("25 never", x.never(), 7);
        x.seen(1, 16);
        Due.is("25 never", x.never(), 4);
        Due.is("25 count", x.count(4), 3);
        x = Mills.told("", "", 20);
        x.rain(0);
        x.seen(0, 20);
        Due.is("25 never", x.never(), 1);
    }

    private static void was26() {
        TideMill x = Mills.told("9", "");
        Due.is("26 was", x.was(0), 1022);
        Due.is("26 was", x.was(1), 2097151);
        x.seen(0, 13);
        Due.is("26 was", x.was(0), 8);
        Due.is("26 was", x.was(1), 1 << 9);
        x.forget();
        x.seen(0, 18);
        Due.is("26 was", x.was(0), 768);
        Due.is("26 was", x.was(1), 507904);
        x.seen(39, 17);
        Due.is("26 was", x.was(0), 0);
        Due.is("26 was", x.was(1), 0);
        Due.is("26 was", x.was(2), BAD);
        Due.is("26 was", x.was(-1), BAD);
        Due.is("26 set", x.set(FLOW, 4), 4);
        Due.is("26 set", x.set(START, 4), 10);
    }

    private static void ask27() {
        TideMill x = Mills.told("", "o1000", 10, 4, 0, 4);
        x.rain(1);
        x.seen(0, 3);
        Due.is("27 ask", x.ask(), 1);
        Due.is("27 was", x.was(1), 24);
        Due.is("37 digest", x.digest(), View.digestOf(x));
        x.seen(0, 4);
        Due.is("27 ask: none is left", x.ask(), 0);
        x.forget();
        x.seen(1, 5);
        Due.is("27 was", x.was(1), 8);
        Due.is("27 ask", x.ask(), 0);
        x = Mills.told("", "o1000", 10, 4, 0, 1);
        x.rain(1);
        x.seen(0, 0);
        Due.is("27 ask: starts 0 and 1", x.ask(), 1);
        x = Mills.told("6", "o1000", 10, 4, 0, 8);
        x.seen(0, 19);
        Due.is("27 ask: starts 19 and 20", x.ask(), 1);
        Due.is("27 was", x.was(1), 3 << 19);
    }

    private static void shower28() {
        TideMill x = Mills.told("", "o1000;o1390", 1);
        showerIs(x, 5, 0, 0, 1);
        x.rain(0);
        showerIs(x, 0, 0, 0, 1);
        showerIs(x, 4, 0, 1, 4);
        showerIs(x, 5, 0, 5, 16);
        showerIs(x, 16, 0, 1, 1);
        x.rain(0);
        showerIs(x, 5, 0, 135, 256);
        showerIs(x, 5, 1, 135, 256);
        x.back(0);
        x.rain(9);
        showerIs(x, 8, 0, 1, 2);
        showerIs(x, 8, 1, 3, 4);
        x.set(START, 4);
        showerIs(x, 5, 0, 1, 1);
        x.set(START, 0);
        for (int i = 0; i < 4; i++) {
            x.rain(0);
        }
        showerIs(x, 1, 0, 1048576 - 759375, 1048576);
        long bad = Long.MIN_VALUE + 2;
        Due.is("28 shower", x.shower(-1, 0, 0), bad);
        Due.is("28 shower", x.shower(17, 0, 0), bad);
        Due.is("28 shower", x.shower(0, -1, 0), bad);
        Due.is("28 shower", x.shower(0, 2, 0), bad);
        Due.is("28 shower", x.shower(0, 0, -1), bad);
        Due.is("28 shower", x.shower(0, 0, 2), bad);
    }

    private static void showerIs(TideMill x, int c, int order, long above, long below) {
        Due.is("28 shower " + c + " above", x.shower(c, order, 0), above);
        Due.is("28 shower " + c + " below", x.shower(c, order, 1), below);
    }

    private static void moon29() {
        TideMill x = Mills.told("000", "o1005", 10, 1);
        // the first lot of seed 1 is 8, that of seed 2 is 6 (its int is below 0), and that of 0 is 0
        Due.is("29 moon", x.moon(1, 0, 0), 1);
        Due.is("29 moon", x.moon(1, 0, 1), 5);
        Due.is("29 moon", x.moon(1, 1, 0), 1);
        Due.is("29 moon", x.moon(1, 1, 1), 0);
        Due.is("29 moon", x.moon(2, 1, 1), 0);
        Due.is("29 moon", x.moon(0, 1, 1), 5);
        Due.is("29 moon: 0 in later hours", Mills.told("", "o1395", 2).moon(1, 0, 0), 1);
        Due.is("29 moon", x.moon(0, -1, 0), BAD);
        Due.is("29 moon", x.moon(0, 41, 0), BAD);
        Due.is("29 moon", x.moon(0, 1, 2), BAD);
        Due.is("29 moon", x.moon(0, 1, -1), BAD);
        Due.is("29 paid", x.paid(), 5);
        x.wipe(0);
        Mills.type(x, 0, "9999999999999999999999999999999999999999");
        Due.is("29 paid", x.paid(), 0);
        Due.is("29 moon in place of the tides told", x.moon(1, 0, 1), 5);
    }

    private static void sheet30lose31() {
        TideMill x = new TideMill();
        Due.is("30 sheet", x.sheet(-1, 0, 0), BAD);
        Due.is("30 sheet", x.sheet(4, 0, 0), BAD);
        Due.is("30 sheet", x.sheet(0, -1, 0), BAD);
        Due.is("30 sheet", x.sheet(0, 3, 0), BAD);
        Due.is("30 sheet", x.sheet(0, 0, 61), BAD);
        Due.is("30 sheet", x.sheet(0, 0, Integer.MAX_VALUE), BAD);
        Due.is("30 sheet", x.sheet(4, 0, -1), BAD);
        Due.is("30 sheet", x.sheet(0, 3, -1), BAD);
        Due.is("30 count", x.count(8), 0);
        Due.is("30 sheet", x.sheet(0, 0, -1), SIZE);
        Due.is("30 sheet", x.sheet(0, 0, Integer.MIN_VALUE), SIZE);
        Due.is("30 count", x.count(8), 5);
        Due.is("31 lose", x.lose(0), NULL);
        Due.is("31 count", x.count(8), 1);
        Due.is("30 sheet", x.sheet(0, 2, 60), 60);
        x.put(0, 2, 59, 7);
        Due.is("30 sheet", x.sheet(0, 2, -1), SIZE);
        Due.is("30 get", x.get(0, 2, 59), 7);
        Due.is("30 sheet", x.sheet(0, 2, 60), 60);
        Due.is("30 get: 0 at first", x.get(0, 2, 59), 0);
        Due.is("30 sheet", x.sheet(3, 1, 0), 0);
        Due.is("31 lose", x.lose(3), 0);
        Due.is("31 lose", x.lose(0), 60);
        Due.is("31 lose", x.lose(0), NULL);
        Due.is("31 lose", x.lose(-1), BAD);
        Due.is("31 lose", x.lose(4), BAD);
    }

    private static void put32get33() {
        TideMill x = new TideMill();
        x.sheet(0, 0, 2);
        x.sheet(1, 1, 2);
        x.sheet(2, 2, 2);
        int[] puts = {200, -129, 40000, Integer.MIN_VALUE, -1, 65535};
        for (int v : puts) {
            Due.is("32 put", x.put(0, 0, 1, v), 1);
            Due.is("33 get", x.get(0, 0, 1), (byte) v);
            Due.is("32 put", x.put(1, 1, 1, v), 1);
            Due.is("33 get", x.get(1, 1, 1), (short) v);
            Due.is("32 put", x.put(2, 2, 1, v), 1);
            Due.is("33 get", x.get(2, 2, 1), v);
        }
        Due.is("33 count", x.count(8), 0);
        int[][] wrong = {{-1, 0, 0, BAD}, {4, 0, 0, BAD}, {0, -1, 0, BAD}, {0, 3, 0, BAD}, {3, 3, 0, BAD}, {3, 0, 0, NULL},
            {3, 0, -1, NULL}, {0, 1, 0, CAST}, {1, 0, 9, CAST}, {2, 0, 0, CAST}, {0, 0, -1, INDEX}, {1, 1, 2, INDEX},
            {2, 2, Integer.MIN_VALUE, INDEX}, {2, 2, Integer.MAX_VALUE, INDEX}};
        for (int[] w : wrong) {
            int before = x.count(8);
            int latest = w[3] == BAD ? before : -10 - w[3];
            Due.is("32 put", x.put(w[0], w[1], w[2], 5), w[3]);
            Due.is("32 count", x.count(8), latest);
            x.sheet(0, 0, -1);
            latest = w[3] == BAD ? 5 : -10 - w[3];
            Due.is("33 get", x.get(w[0], w[1], w[2]), LEAST_INT);
            Due.is("33 count", x.count(8), latest);
        }
        Due.is("32 get", x.get(0, 0, 0), 0);
    }

    private static void copy34() {
        TideMill x = new TideMill();
        x.sheet(0, 1, 5);
        x.sheet(1, 1, 3);
        x.sheet(2, 2, 5);
        for (int i = 0; i < 5; i++) {
            x.put(0, 1, i, 10 + i);
        }
        Due.is("34 copy", x.copy(0, 1, 1, 0, 3), 1);
        itemsAre(x, 1, 1, 11, 12, 13);
        Due.is("34 copy", x.copy(0, 0, 0, 1, 4), 1);
        itemsAre(x, 0, 1, 10, 10, 11, 12, 13);
        Due.is("34 copy", x.copy(0, 2, 0, 0, 3), 1);
        itemsAre(x, 0, 1, 11, 12, 13, 12, 13);
        Due.is("34 copy", x.copy(0, 5, 1, 3, 0), 1);
        int[][] wrong = {{-1, 0, 0, 0, 0, BAD}, {0, 0, 4, 0, 0, BAD}, {4, -1, 3, 0, 0, BAD}, {3, 0, 0, 0, 0, NULL},
            {0, 0, 3, 0, 0, NULL}, {3, -1, 3, 0, 0, NULL}, {0, 0, 2, 0, 1, STORE}, {2, -1, 0, 0, 1, STORE},
            {0, -1, 1, 0, 1, INDEX}, {0, 0, 1, -1, 1, INDEX}, {0, 0, 1, 0, -1, INDEX}, {0, 3, 1, 0, 3, INDEX},
            {0, 0, 1, 1, 3, INDEX}, {0, 6, 1, 0, 0, INDEX}, {0, 0, 1, 4, 0, INDEX},
            {0, Integer.MAX_VALUE, 1, 0, Integer.MAX_VALUE, INDEX}, {0, 1, 1, 1, Integer.MAX_VALUE, INDEX},
            {0, Integer.MIN_VALUE, 1, 0, 1, INDEX}};
        for (int[] w : wrong) {
            x.sheet(0, 0, -1);
            Due.is("34 copy", x.copy(w[0], w[1], w[2], w[3], w[4]), w[5]);
            Due.is("34 count", x.count(8), w[5] == BAD ? 5 : -10 - w[5]);
        }
        itemsAre(x, 0, 1, 11, 12, 13, 12, 13);
        itemsAre(x, 1, 1, 11, 12, 13);
    }

    private static void itemsAre(TideMill x, int s, int form, int... due) {
        for (int i = 0; i < due.length; i++) {
            Due.is("get(" + s + ", " + form + ", " + i + ")", x.get(s, form, i), due[i]);
        }
    }

    private static void write35() {
        TideMill x = Mills.told("", "w4399");
        Due.is("35 write", x.write(-1), BAD);
        Due.is("35 write", x.write(4), BAD);
        Due.is("35 write", x.write(0), NULL);
        Due.is("35 count", x.count(8), 1);
        x.sheet(0, 0, 3);
        Due.is("35 write", x.write(0), 3);
        itemsAre(x, 0, 0, 7, 4, 1);
        x.set(HEAD, 3);
        Due.is("35 write", x.write(0), 3);
        itemsAre(x, 0, 0, 7, 4, 4);
        x.set(HEAD, 2);
        x.sheet(1, 2, 60);
        x.put(1, 2, 40, 99);
        Due.is("35 write", x.write(1), 40);
        itemsAre(x, 1, 2, 7, 4, 1, 1);
        Due.is("35 get", x.get(1, 2, 39), 1);
        Due.is("35 get", x.get(1, 2, 40), 99);
        x.sheet(2, 1, 0);
        Due.is("35 write", x.write(2), 0);
    }

    private static void count36() {
        TideMill x = Mills.told("123", "w1000;o2000");
        x.rain(0);
        x.dressing(0);
        x.dressing(1);
        x.seen(0, 0);
        x.lose(0);
        counts(x, 3, 2, 3, 11, 1, 2, 3, 1, 1);
        x.type(0, 'x');
        x.type(1, 'x');
        counts(x, 0, 0, 4, 12, 1, 2, 0, 1, 1);
        for (int wrong : new int[] {-1, 9, Integer.MIN_VALUE, Integer.MAX_VALUE}) {
            Due.is("36 count", x.count(wrong), BAD);
        }
    }

    private static TideMill someMill() {
        TideMill x = Mills.told("024686420246", "w2129;r1055;o3203", 12, 3, 1, 1, 2);
        x.rain(2);
        x.rain(9);
        x.dressing(6);
        return x;
    }

    private static void digestIs(TideMill x) {
        Due.is("37 digest", x.digest(), View.digestOf(x));
    }

    private static void digest37() {
        digestIs(new TideMill());
        digestIs(someMill());
        TideMill x = someMill();
        long before = x.digest();
        x.seen(3, x.at(3, 0));
        Due.holds("37 digest tells what is seen", x.digest() != before);
        digestIs(x);
        x = someMill();
        x.seen(3, x.at(3, 0));
        x.forget();
        x.lose(0);
        Due.is("37 digest: findings are not in it", x.digest(), before);
        x.type(1, 'x');
        digestIs(x);
        x = Mills.told("", "o9399", 20, 4, 0, 2, 1);
        x.rain(0);
        digestIs(x);
    }

    public static void main(String[] args) {
        newObject1();
        type2();
        wipe3();
        undo4();
        fault5();
        sea6();
        order7();
        set8();
        rain9();
        dressing10();
        back11();
        read12();
        at13();
        hours14to18();
        row19();
        dress20();
        least21();
        send22();
        seen23forget24();
        never25();
        was26();
        ask27();
        shower28();
        moon29();
        sheet30lose31();
        put32get33();
        copy34();
        write35();
        count36();
        digest37();
        Due.close("PromiseTest");
    }
}
