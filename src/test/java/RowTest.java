import java.util.Random;

/** Promise 19: ROW of many mills by chance, held against all rows of all ORDERS, each ground out to its end. */
public final class RowTest {
    private static final String SENTENCE = "promise 19, \"ROW: of all rows of all ORDERS, in which these are ground, "
            + "that by which most is PAID, of like ones the least\": ";

    private final int[] sea = new int[40];
    private final int[] rains = new int[40];
    private final boolean[] dressed = new boolean[40];
    private int flow, leak, head, sharp;
    private char[] grain;
    private int[] sacks, due, pay;
    private int[] row, best;
    private int most;

    private RowTest() {
    }

    /** Makes a mill by chance, in the numbers here and as an object. */
    private TideMill make(Random chance, int orders) {
        StringBuilder tides = new StringBuilder();
        int highest = 1 + chance.nextInt(10);
        for (int hour = 0; hour < 40; hour++) {
            int figure = chance.nextInt(highest);
            tides.append(figure);
            sea[hour] = 2 * figure;
        }
        int start = chance.nextInt(21);
        flow = 1 + chance.nextInt(9);
        leak = chance.nextInt(3);
        head = chance.nextInt(3);
        sharp = 1 + chance.nextInt(9);
        TideMill x = Mills.told(tides.toString(), someOrders(chance, orders), start, flow, leak, head, sharp);
        for (int i = chance.nextInt(7); i > 0; i--) {
            int hour = chance.nextInt(40);
            rains[hour]++;
            x.rain(hour);
        }
        for (int i = chance.nextInt(4); i > 0; i--) {
            int hour = chance.nextInt(40);
            dressed[hour] = true;
            x.dressing(hour);
        }
        row = new int[orders];
        best = new int[orders];
        most = -1;
        extend(0, 0, 0, start, 0, 0);
        return x;
    }

    private String someOrders(Random chance, int orders) {
        StringBuilder text = new StringBuilder();
        grain = new char[orders];
        sacks = new int[orders];
        due = new int[orders];
        pay = new int[orders];
        int mostSacks = 1 + chance.nextInt(4);
        int lastDue = 5 + chance.nextInt(35);
        int mostPay = 1 + chance.nextInt(9);
        for (int i = 0; i < orders; i++) {
            grain[i] = "wro".charAt(chance.nextInt(3));
            sacks[i] = 1 + chance.nextInt(mostSacks);
            due[i] = chance.nextInt(lastDue + 1);
            pay[i] = chance.nextInt(mostPay + 1);
            text.append(i == 0 ? "" : ";").append(grain[i]).append(sacks[i]).append(due[i] / 10).append(due[i] % 10).append(pay[i]);
        }
        return text.toString();
    }

    /** Rows in rising order, so that the first of like ones is the least; none is left out. */
    private void extend(int depth, int taken, int hour, int pond, int since, int paid) {
        if (depth == row.length) {
            if (paid > most) {
                most = paid;
                best = row.clone();
            }
            return;
        }
        for (int order = 0; order < row.length; order++) {
            if ((taken & 1 << order) == 0) {
                row[depth] = order;
                grindOut(depth, taken | 1 << order, hour, pond, since, paid);
            }
        }
    }

    private void grindOut(int depth, int taken, int from, int level, int ground, int paidBefore) {
        int order = row[depth];
        int hour = from;
        int pond = level;
        int since = ground;
        int left = sacks[order];
        while (left > 0 && hour < 40) {
            pond = Math.max(Math.min(pond + Math.max(Math.min(sea[hour] - pond, flow), 0) + 3 * rains[hour], 20) - leak, 0);
            int wants = head + (grain[order] == 'w' ? 2 : grain[order] == 'r' ? 1 : 0) + since / sharp;
            if (dressed[hour]) {
                since = 0;
            } else if (pond - sea[hour] >= wants) {
                pond = Math.max(pond - (grain[order] == 'w' ? 3 : grain[order] == 'r' ? 2 : 1), 0);
                since++;
                left--;
            }
            hour++;
        }
        boolean pays = left == 0 && hour - 1 <= due[order];
        extend(depth + 1, taken, hour, pond, since, paidBefore + (pays ? pay[order] : 0));
    }

    private static void look(int seed) {
        Random chance = new Random(seed);
        int orders = 3 + chance.nextInt(seed % 20 == 0 ? 6 : 5);
        RowTest due = new RowTest();
        TideMill x = due.make(chance, orders);
        Due.is(SENTENCE + "row(0) of mill " + seed, x.row(0), due.most);
        for (int i = 0; i < 8; i++) {
            Due.is(SENTENCE + "row(" + (1 + i) + ") of mill " + seed, x.row(1 + i), i < orders ? due.best[i] : -1);
        }
    }

    public static void main(String[] args) {
        int mills = args.length > 0 ? Integer.parseInt(args[0]) : 8000;
        for (int seed = 1; seed <= mills; seed++) {
            look(seed);
        }
        Due.close("RowTest");
    }
}
