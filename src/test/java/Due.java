/** Counts and tells the answers that are not as due. */
final class Due {
    private static int wrong = 0;
    private static int looked = 0;

    private Due() {
    }

    static void is(String call, long got, long due) {
        looked++;
        if (got != due) {
            wrong++;
            System.out.println(call + " answered " + got + ", due is " + due);
        }
    }

    static void holds(String what, boolean held) {
        looked++;
        if (!held) {
            wrong++;
            System.out.println("does not hold: " + what);
        }
    }

    static void close(String test) {
        System.out.println(test + ": " + (looked - wrong) + " of " + looked + " as due");
        if (wrong != 0) {
            System.exit(1);
        }
    }
}
