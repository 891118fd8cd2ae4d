import java.util.Random;

/** Runs of calls by chance on TideMill and on Model: every answer must be the same. */
public final class ModelTest {
    private static final int[] WILD = {Integer.MIN_VALUE, Integer.MAX_VALUE, -1, -2, 40, 41, 60, 61, 9, 8, 10, 256, -129};
    private static final String[] CALLS = {"type", "wipe", "undo", "fault", "sea", "order", "set", "rain", "dressing", "back",
        "read", "at", "ends", "paid", "spilt", "idle", "late", "row", "dress", "least", "send", "seen", "forget", "never",
        "was", "ask", "shower", "moon", "sheet", "lose", "put", "get", "copy", "write", "count", "digest"};
    /** An object is made for 512; the last step may look at a whole SHEET. */
    private static final int CALLS_AN_OBJECT = 512 - 61;

    private final Random chance;
    private final int wildness;
    private final boolean manyOrders;
    private final TideMill mill = new TideMill();
    private final Model model = new Model();
    private final StringBuilder told = new StringBuilder();
    private int calls;
    private static int wrong = 0;

    private ModelTest(long seed) {
        chance = new Random(seed);
        wildness = chance.nextInt(4) == 0 ? 8 : 40;
        manyOrders = chance.nextInt(16) == 0;
    }

    private int from(int least, int most) {
        if (chance.nextInt(wildness) == 0) {
            return chance.nextBoolean() ? WILD[chance.nextInt(WILD.length)] : most + 1;
        }
        return least + chance.nextInt(most - least + 1);
    }

    private void same(String call, long got, long due, int... args) {
        calls++;
        StringBuilder text = new StringBuilder(call).append('(');
        for (int i = 0; i < args.length; i++) {
            text.append(i == 0 ? "" : ", ").append(args[i]);
        }
        text.append(") ");
        told.append(text).append(got).append('\n');
        if (got != due) {
            wrong++;
            if (wrong <= 3) {
                System.out.println(told + "the last one answered " + got + ", due is " + due);
            }
        }
    }

    private void typeText(int text, String s) {
        for (char c : s.toCharArray()) {
            same("type", mill.type(text, c), model.type(text, c), text, c);
        }
    }

    private String someTides() {
        StringBuilder b = new StringBuilder();
        int n = chance.nextInt(41);
        int kind = chance.nextInt(3);
        int phase = chance.nextInt(12);
        for (int i = 0; i < n; i++) {
            int wave = (int) Math.round(4.5 + 4.5 * Math.sin((i + phase) * Math.PI / 6));
            b.append((char) ('0' + (kind == 0 ? chance.nextInt(10) : kind == 1 ? wave : chance.nextInt(4))));
        }
        if (n > 0 && chance.nextInt(15) == 0) {
            b.setCharAt(chance.nextInt(n), (char) chance.nextInt(256));
        }
        return b.toString();
    }

    private String someOrders() {
        StringBuilder b = new StringBuilder();
        int n = manyOrders ? 7 + chance.nextInt(2) : chance.nextInt(6);
        int mostSacks = chance.nextBoolean() ? 9 : 3;
        for (int i = 0; i < n; i++) {
            int due = chance.nextInt(40);
            b.append(i == 0 ? "" : ";").append("wro".charAt(chance.nextInt(3))).append(1 + chance.nextInt(mostSacks));
            b.append(due / 10).append(due % 10).append(chance.nextInt(10));
        }
        if (n > 0 && chance.nextInt(10) == 0) {
            b.setCharAt(chance.nextInt(b.length()), "wro;0123456789x/:".charAt(chance.nextInt(17)));
        }
        return b.toString();
    }

    private void run() {
        typeText(0, someTides());
        typeText(1, someOrders());
        for (int what = 0; what < 5; what++) {
            int v = chance.nextInt(10);
            same("set", mill.set(what, v), model.set(what, v), what, v);
        }
        int most = manyOrders ? calls + 120 : CALLS_AN_OBJECT;
        while (calls < most) {
            String call = CALLS[chance.nextInt(CALLS.length)];
            boolean dear = call.equals("digest") || call.equals("row");
            if (!dear || chance.nextInt(manyOrders ? 40 : 4) == 0) {
                step(call);
            }
        }
    }

    private void step(String call) {
        switch (call) {
            case "type", "wipe", "undo", "fault", "sea", "order", "set", "rain", "dressing", "back", "read" -> tellStep(call);
            case "sheet", "lose", "put", "get", "copy", "write", "count", "digest" -> sheetStep(call);
            case "seen", "forget", "never", "was", "ask", "shower", "moon" -> seenStep(call);
            default -> hourStep(call);
        }
    }

    private void tellStep(String call) {
        int a = from(0, 1);
        switch (call) {
            case "type" -> {
                int b = chance.nextBoolean() ? "wro;0123456789".charAt(chance.nextInt(14)) : from(0, 255);
                same(call, mill.type(a, b), model.type(a, b), a, b);
            }
            case "wipe" -> {
                if (chance.nextInt(3) == 0) {
                    same(call, mill.wipe(a), model.wipe(a), a);
                    if (a == 0 && calls < 400) typeText(0, someTides());
                    if (a == 1 && calls < 400) typeText(1, someOrders());
                }
            }
            case "undo" -> same(call, mill.undo(a), model.undo(a), a);
            case "fault" -> same(call, mill.fault(a), model.fault(a), a);
            case "sea" -> {
                int hour = from(0, 39);
                same(call, mill.sea(hour), model.sea(hour), hour);
            }
            case "order" -> {
                int order = from(0, 7);
                int what = from(0, 3);
                same(call, mill.order(order, what), model.order(order, what), order, what);
            }
            case "set" -> {
                int what = from(0, 4);
                int v = from(0, what == 0 ? 20 : 9);
                same(call, mill.set(what, v), model.set(what, v), what, v);
            }
            case "rain" -> {
                int hour = from(0, 39);
                same(call, mill.rain(hour), model.rain(hour), hour);
            }
            case "dressing" -> {
                int hour = from(0, 39);
                same(call, mill.dressing(hour), model.dressing(hour), hour);
            }
            case "back" -> same(call, mill.back(a), model.back(a), a);
            default -> {
                int s = from(0, 3);
                same(call, mill.read(s), model.read(s), s);
            }
        }
    }

    private void hourStep(String call) {
        int a = from(0, 1);
        switch (call) {
            case "at" -> {
                int hour = from(0, 39);
                int what = from(0, 4);
                same(call, mill.at(hour, what), model.at(hour, what), hour, what);
            }
            case "ends" -> {
                int order = from(0, 7);
                same(call, mill.ends(order), model.ends(order), order);
            }
            case "paid" -> same(call, mill.paid(), model.paid());
            case "spilt" -> same(call, mill.spilt(), model.spilt());
            case "idle" -> same(call, mill.idle(), model.idle());
            case "late" -> same(call, mill.late(), model.late());
            case "row" -> {
                int what = from(0, 8);
                same(call, mill.row(what), model.row(what), what);
            }
            case "dress" -> same(call, mill.dress(a), model.dress(a), a);
            case "least" -> same(call, mill.least(), model.least());
            default -> same(call, mill.send(a), model.send(a), a);
        }
    }

    private void seenStep(String call) {
        int a = from(0, 1);
        switch (call) {
            case "seen" -> {
                int hour = from(0, 39);
                boolean asItIs = chance.nextInt(3) > 0 && hour >= 0 && hour < 40;
                int high = asItIs ? model.at(hour, 0) : from(0, 20);
                same(call, mill.seen(hour, high), model.seen(hour, high), hour, high);
            }
            case "forget" -> {
                if (chance.nextInt(4) == 0) {
                    same(call, mill.forget(), model.forget());
                }
            }
            case "never" -> same(call, mill.never(), model.never());
            case "was" -> same(call, mill.was(a), model.was(a), a);
            case "ask" -> same(call, mill.ask(), model.ask());
            case "shower" -> {
                int c = from(0, 16);
                int order = from(0, 3);
                same(call, mill.shower(c, order, a), model.shower(c, order, a), c, order, a);
            }
            default -> {
                int seed = chance.nextInt();
                int n = from(0, 40);
                same(call, mill.moon(seed, n, a), model.moon(seed, n, a), seed, n, a);
            }
        }
    }

    private void sheetStep(String call) {
        int s = from(0, 3);
        int form = chance.nextInt(3) > 0 && s >= 0 && s < 4 && model.sheets[s] != null ? model.formOf(s) : from(0, 2);
        int size = s >= 0 && s < 4 && model.sheets[s] != null ? model.sizeOf(s) : 3;
        int i = from(0, Math.max(size, 1) - 1);
        switch (call) {
            case "sheet" -> {
                int n = chance.nextBoolean() ? from(0, 12) : from(-2, 60);
                same(call, mill.sheet(s, form, n), model.sheet(s, form, n), s, form, n);
            }
            case "lose" -> {
                if (chance.nextInt(3) == 0) {
                    same(call, mill.lose(s), model.lose(s), s);
                }
            }
            case "put" -> {
                int v = chance.nextInt(4) > 0 ? from(0, 39) : chance.nextInt();
                same(call, mill.put(s, form, i, v), model.put(s, form, i, v), s, form, i, v);
            }
            case "get" -> same(call, mill.get(s, form, i), model.get(s, form, i), s, form, i);
            case "copy" -> {
                int t = chance.nextInt(3) == 0 ? s : from(0, 3);
                int j = from(0, 8);
                int n = from(0, 6);
                same(call, mill.copy(s, i, t, j, n), model.copy(s, i, t, j, n), s, i, t, j, n);
            }
            case "write" -> {
                if (chance.nextInt(4) == 0) {
                    same(call, mill.write(s), model.write(s), s);
                }
            }
            case "count" -> {
                int what = from(0, 8);
                same(call, mill.count(what), model.count(what), what);
            }
            default -> same(call, mill.digest(), model.digest());
        }
        if (chance.nextInt(8) == 0) {
            sheetIsLike(chance.nextInt(4));
        }
    }

    private void sheetIsLike(int s) {
        if (model.sheets[s] == null) {
            return;
        }
        for (int i = 0; i < model.sizeOf(s); i++) {
            calls++;
            if (mill.get(s, model.formOf(s), i) != model.item(s, i)) {
                wrong++;
                System.out.println(told + "item " + i + " of sheet " + s + " is unlike");
            }
        }
    }

    public static void main(String[] args) {
        int runs = args.length > 0 ? Integer.parseInt(args[0]) : 250;
        long first = args.length > 1 ? Long.parseLong(args[1]) : 1;
        for (long seed = first; seed < first + runs && wrong < 3; seed++) {
            new ModelTest(seed).run();
        }
        System.out.println(runs + " runs by chance: " + (wrong == 0 ? "all answers are as due" : wrong + " answers are not as due"));
        if (wrong != 0) {
            System.exit(1);
        }
    }
}
