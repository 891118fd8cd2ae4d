import java.lang.management.ManagementFactory;
import java.util.Random;

/** Calls make no objects, a new TideMill makes few, and no call throws or hangs, whatever it is given. */
public final class RoomTest {
    private static final int[] ODD = {Integer.MIN_VALUE, Integer.MIN_VALUE + 1, -129, -2, -1, 0, 1, 2, 3, 4, 5, 7, 8, 9, 16, 17,
        20, 21, 39, 40, 41, 46, 47, 48, 57, 59, 60, 61, 111, 119, 255, 256, Integer.MAX_VALUE - 1, Integer.MAX_VALUE};
    private static final com.sun.management.ThreadMXBean BEAN =
            (com.sun.management.ThreadMXBean) ManagementFactory.getThreadMXBean();

    private RoomTest() {
    }

    private static long made() {
        return BEAN.getThreadAllocatedBytes(Thread.currentThread().getId());
    }

    private static long dearCalls(TideMill x) {
        long sum = 0;
        for (int i = 0; i < 14; i++) {
            x.set(0, 10 + i % 10);
            sum += x.digest();
            sum += x.sheet(i % 4, i % 3, 60) + x.write(i % 4) + x.read(i % 4) + x.copy(i % 4, 0, i % 4, 1, 59);
            sum += x.undo(1) + x.type(1, '7') + x.rain(i) + x.back(0) + x.lose(i % 4) + x.get(0, 0, 0);
        }
        return sum;
    }

    private static void room() {
        TideMill x = Mills.full();
        long sum = dearCalls(x);
        long before = made();
        sum += dearCalls(x);
        long calls = made() - before;
        before = made();
        TideMill y = Mills.full();
        long object = made() - before;
        Due.holds("calls make nothing: " + calls + " bytes", calls < 1000);
        Due.holds("an object is small: " + object + " bytes", object < 40000);
        Due.holds("both are used", sum != 0 && y != x);
    }

    private static int odd(Random chance) {
        return ODD[chance.nextInt(ODD.length)];
    }

    private static void anything(TideMill x, Random r) {
        switch (r.nextInt(36)) {
            case 0 -> x.type(odd(r), odd(r));
            case 1 -> x.wipe(odd(r));
            case 2 -> x.undo(odd(r));
            case 3 -> x.fault(odd(r));
            case 4 -> x.sea(odd(r));
            case 5 -> x.order(odd(r), odd(r));
            case 6 -> x.set(odd(r), odd(r));
            case 7 -> x.rain(odd(r));
            case 8 -> x.dressing(odd(r));
            case 9 -> x.back(odd(r));
            case 10 -> x.read(odd(r));
            case 11 -> x.at(odd(r), odd(r));
            case 12 -> x.ends(odd(r));
            case 13 -> x.paid();
            case 14 -> x.spilt();
            case 15 -> x.idle();
            case 16 -> x.late();
            case 17 -> x.row(odd(r));
            case 18 -> x.dress(odd(r));
            case 19 -> x.least();
            case 20 -> x.send(odd(r));
            case 21 -> x.seen(odd(r), odd(r));
            case 22 -> x.forget();
            case 23 -> x.never();
            case 24 -> x.was(odd(r));
            case 25 -> x.ask();
            case 26 -> x.shower(odd(r), odd(r), odd(r));
            case 27 -> x.moon(odd(r), odd(r), odd(r));
            case 28 -> x.sheet(odd(r), odd(r), odd(r));
            case 29 -> x.lose(odd(r));
            case 30 -> x.put(odd(r), odd(r), odd(r), odd(r));
            case 31 -> x.get(odd(r), odd(r), odd(r));
            case 32 -> x.copy(odd(r), odd(r), odd(r), odd(r), odd(r));
            case 33 -> x.write(odd(r));
            case 34 -> x.count(odd(r));
            default -> x.digest();
        }
    }

    public static void main(String[] args) {
        room();
        Random chance = new Random(5);
        for (int run = 0; run < 300; run++) {
            TideMill x = run % 2 == 0 ? new TideMill() : Mills.full();
            for (int call = 0; call < 370; call++) {
                anything(x, chance);
            }
        }
        Due.close("RoomTest");
    }
}
