import java.math.BigInteger;
import java.util.ArrayList;
import java.util.Collections;
import java.util.List;
import java.util.TreeMap;

/** The document's words over again, slow and with nothing kept between calls: what TideMill is held against. */
final class Model {
    static final int NONE = -1, BAD = -2, NOT = -3, FULL = -4;

    record Order(char grain, int sacks, int due, int pay) { }

    record Look(int hour, int high) { }

    static final class World {
        int start, flow, leak, head, sharp;
        List<Integer> tides = new ArrayList<>();
        List<Integer> rains = new ArrayList<>();
        List<Integer> dressings = new ArrayList<>();
        List<Order> orders = new ArrayList<>();
        List<Integer> row = new ArrayList<>();

        int sea(int hour) {
            return hour < tides.size() ? 2 * tides.get(hour) : 0;
        }
    }

    static final class Day {
        List<Integer> pond = new ArrayList<>();
        List<Integer> sacks = new ArrayList<>();
        List<Integer> order = new ArrayList<>();
        List<Integer> idle = new ArrayList<>();
        List<Integer> dull = new ArrayList<>();
        TreeMap<Integer, Integer> ends = new TreeMap<>();
        int spilt;
    }

    final StringBuilder[] texts = {new StringBuilder(), new StringBuilder()};
    final int[] dials = {10, 4, 0, 2, 5};
    final List<Integer> rains = new ArrayList<>();
    final List<Integer> dressings = new ArrayList<>();
    final List<Look> looks = new ArrayList<>();
    final Object[] sheets = new Object[4];
    int finding;

    World world() {
        World w = new World();
        w.start = dials[0];
        w.flow = dials[1];
        w.leak = dials[2];
        w.head = dials[3];
        w.sharp = dials[4];
        if (fault(0) == NONE) {
            for (char c : texts[0].toString().toCharArray()) {
                w.tides.add(c - '0');
            }
        }
        if (fault(1) == NONE && texts[1].length() > 0) {
            for (String o : texts[1].toString().split(";")) {
                w.orders.add(new Order(o.charAt(0), Integer.parseInt(o.substring(1, 2)),
                        Integer.parseInt(o.substring(2, 4)), Integer.parseInt(o.substring(4))));
            }
        }
        w.rains.addAll(rains);
        w.dressings.addAll(dressings);
        for (int i = 0; i < w.orders.size(); i++) {
            w.row.add(i);
        }
        return w;
    }

    static Day day(World w) {
        Day d = new Day();
        List<Integer> waiting = new ArrayList<>();
        for (int order : w.row) {
            for (int sack = 0; sack < w.orders.get(order).sacks(); sack++) {
                waiting.add(order);
            }
        }
        int pond = w.start;
        int since = 0;
        int all = 0;
        for (int hour = 0; hour < 40; hour++) {
            int sea = w.sea(hour);
            if (sea > pond) {
                pond += sea - pond > w.flow ? w.flow : sea - pond;
            }
            pond += 3 * Collections.frequency(w.rains, hour);
            while (pond > 20) {
                pond--;
                d.spilt++;
            }
            pond = pond < w.leak ? 0 : pond - w.leak;
            int order = NONE;
            int idle = 0;
            if (w.dressings.contains(hour)) {
                since = 0;
            } else if (!waiting.isEmpty()) {
                order = waiting.get(0);
                char grain = w.orders.get(order).grain();
                int want = w.head + (grain == 'w' ? 2 : grain == 'r' ? 1 : 0);
                for (int dull = w.sharp; dull <= since; dull += w.sharp) {
                    want++;
                }
                if (pond >= sea + want) {
                    pond -= grain == 'w' ? 3 : grain == 'r' ? 2 : 1;
                    pond = pond < 0 ? 0 : pond;
                    since++;
                    all++;
                    waiting.remove(0);
                    if (!waiting.contains(order)) {
                        d.ends.put(order, hour);
                    }
                } else {
                    idle = 1;
                }
            }
            d.pond.add(pond);
            d.sacks.add(all);
            d.order.add(order);
            d.idle.add(idle);
            d.dull.add((since - since % w.sharp) / w.sharp);
        }
        return d;
    }

    static boolean paysIn(World w, Day d, int order) {
        return d.ends.containsKey(order) && d.ends.get(order) <= w.orders.get(order).due();
    }

    static int sumIn(World w, Day d) {
        int sum = 0;
        for (int i = 0; i < w.orders.size(); i++) {
            if (paysIn(w, d, i)) {
                sum += w.orders.get(i).pay();
            }
        }
        return sum;
    }

    int type(int text, int b) {
        if (text < 0 || text > 1 || b < 0 || b > 255) return BAD;
        if (texts[text].length() == (text == 0 ? 40 : 47)) return FULL;
        texts[text].append((char) b);
        return texts[text].length();
    }

    int wipe(int text) {
        if (text < 0 || text > 1) return BAD;
        int had = texts[text].length();
        texts[text].setLength(0);
        return had;
    }

    int undo(int text) {
        if (text < 0 || text > 1) return BAD;
        if (texts[text].length() == 0) return NOT;
        texts[text].setLength(texts[text].length() - 1);
        return texts[text].length();
    }

    /** Lengthens a head of the text as long as some text that goes on from it is well. */
    int fault(int text) {
        if (text < 0 || text > 1) return BAD;
        String s = texts[text].toString();
        if (text == 0) {
            int i = 0;
            while (i < s.length() && s.substring(i, i + 1).matches("[0-9]")) i++;
            return i == s.length() ? NONE : i;
        }
        if (s.isEmpty() || s.matches("([wro][1-9][0-3][0-9][0-9];){0,7}[wro][1-9][0-3][0-9][0-9]")) return NONE;
        String tail = "w1000";
        for (int n = 0; n < s.length(); n++) {
            String head = s.substring(0, n + 1);
            boolean goesOn = (head + ";" + tail).matches("([wro][1-9][0-3][0-9][0-9];)*[wro][1-9][0-3][0-9][0-9]");
            for (int k = 0; k <= 5; k++) {
                goesOn |= (head + tail.substring(k)).matches("([wro][1-9][0-3][0-9][0-9];){0,7}[wro][1-9][0-3][0-9][0-9]");
            }
            if (!goesOn) return n;
        }
        return s.length();
    }

    int sea(int hour) {
        return hour < 0 || hour > 39 ? BAD : world().sea(hour);
    }

    int order(int order, int what) {
        World w = world();
        if (order < 0 || order >= w.orders.size() || what < 0 || what > 3) return BAD;
        Order o = w.orders.get(order);
        return new int[] {"wro".indexOf(o.grain()), o.sacks(), o.due(), o.pay()}[what];
    }

    int set(int what, int v) {
        if (what < 0 || what > 4) return BAD;
        int least = what == 1 || what == 4 ? 1 : 0;
        int most = what == 0 ? 20 : 9;
        if (v < least || v > most) return BAD;
        int was = dials[what];
        dials[what] = v;
        return was;
    }

    int rain(int hour) {
        if (hour < 0 || hour > 39) return BAD;
        if (rains.size() == 6) return FULL;
        rains.add(hour);
        return rains.size();
    }

    int dressing(int hour) {
        if (hour < 0 || hour > 39) return BAD;
        if (dressings.size() == 6) return FULL;
        dressings.add(hour);
        return dressings.size();
    }

    int back(int what) {
        if (what < 0 || what > 1) return BAD;
        List<Integer> list = what == 0 ? rains : dressings;
        if (list.isEmpty()) return NOT;
        list.remove(list.size() - 1);
        return list.size();
    }

    int read(int s) {
        if (s < 0 || s > 3) return BAD;
        if (sheets[s] == null) return found(1);
        int before = rains.size();
        for (int i = 0; i < sizeOf(s); i++) {
            if (rain(item(s, i)) < 0) break;
        }
        return rains.size() - before;
    }

    int at(int hour, int what) {
        if (hour < 0 || hour > 39 || what < 0 || what > 4) return BAD;
        Day d = day(world());
        return List.of(d.pond, d.sacks, d.order, d.idle, d.dull).get(what).get(hour);
    }

    int ends(int order) {
        World w = world();
        if (order < 0 || order >= w.orders.size()) return BAD;
        return day(w).ends.getOrDefault(order, NONE);
    }

    int paid() {
        World w = world();
        return sumIn(w, day(w));
    }

    int spilt() {
        return day(world()).spilt;
    }

    int idle() {
        return Collections.frequency(day(world()).idle, 1);
    }

    int late() {
        World w = world();
        Day d = day(w);
        int bits = 0;
        for (int i = 0; i < w.orders.size(); i++) {
            if (!paysIn(w, d, i)) bits += 1 << i;
        }
        return bits;
    }

    private int mostPaid;
    private List<Integer> bestRow;

    private void tryRows(World w, List<Integer> left) {
        if (left.isEmpty()) {
            int sum = sumIn(w, day(w));
            if (sum > mostPaid) {
                mostPaid = sum;
                bestRow = new ArrayList<>(w.row);
            }
            return;
        }
        for (int i = 0; i < left.size(); i++) {
            List<Integer> rest = new ArrayList<>(left);
            w.row.add(rest.remove(i));
            tryRows(w, rest);
            w.row.remove(w.row.size() - 1);
        }
    }

    int row(int what) {
        if (what < 0 || what > 8) return BAD;
        World w = world();
        if (what > w.orders.size() || w.orders.isEmpty()) return NONE;
        mostPaid = NONE;
        List<Integer> left = new ArrayList<>(w.row);
        w.row.clear();
        tryRows(w, left);
        return what == 0 ? mostPaid : bestRow.get(what - 1);
    }

    int dress(int what) {
        if (what < 0 || what > 1) return BAD;
        int best = NONE;
        int most = NONE;
        for (int hour = 39; hour >= 0; hour--) {
            World w = world();
            w.dressings.add(hour);
            int sacks = day(w).sacks.get(39);
            if (sacks >= most) {
                most = sacks;
                best = hour;
            }
        }
        return what == 0 ? best : most;
    }

    int least() {
        int least = NONE;
        for (int start = 20; start >= 0; start--) {
            World w = world();
            w.start = start;
            if (day(w).ends.size() == w.orders.size()) least = start;
        }
        return least;
    }

    int send(int what) {
        if (what < 0 || what > 1) return BAD;
        int best = NONE;
        int most = NONE;
        for (int i = world().orders.size() - 1; i >= 0; i--) {
            World w = world();
            w.row.remove(Integer.valueOf(i));
            int sum = sumIn(w, day(w));
            if (sum >= most) {
                most = sum;
                best = i;
            }
        }
        return what == 0 ? best : most;
    }

    int seen(int hour, int high) {
        if (hour < 0 || hour > 39 || high < 0 || high > 20) return BAD;
        if (looks.size() == 8) return FULL;
        looks.add(new Look(hour, high));
        return looks.size();
    }

    int forget() {
        int had = looks.size();
        looks.clear();
        return had;
    }

    boolean fits(Day d) {
        return looks.stream().allMatch(look -> d.pond.get(look.hour()) == look.high());
    }

    int never() {
        int bits = 0;
        for (int i = 0; i < rains.size(); i++) {
            World w = world();
            w.rains.remove(i);
            if (fits(day(w))) bits += 1 << i;
        }
        return bits;
    }

    int was(int what) {
        if (what < 0 || what > 1) return BAD;
        int bits = 0;
        for (int v = what == 0 ? 1 : 0; v <= (what == 0 ? 9 : 20); v++) {
            World w = world();
            if (what == 0) w.flow = v; else w.start = v;
            if (fits(day(w))) bits += 1 << v;
        }
        return bits;
    }

    int ask() {
        List<Day> days = new ArrayList<>();
        for (int start = 0; start <= 20; start++) {
            World w = world();
            w.start = start;
            Day d = day(w);
            if (fits(d)) days.add(d);
        }
        int best = NONE;
        int least = 99;
        for (int hour = 0; hour < 40; hour++) {
            List<Integer> highs = new ArrayList<>();
            for (Day d : days) highs.add(d.pond.get(hour));
            int greatest = 0;
            for (int high : highs) greatest = Math.max(greatest, Collections.frequency(highs, high));
            if (greatest < least) {
                least = greatest;
                best = hour;
            }
        }
        return best;
    }

    private BigInteger chance(World w, int i, int c, int order) {
        if (i == rains.size()) return paysIn(w, day(w), order) ? BigInteger.ONE : BigInteger.ZERO;
        BigInteger without = chance(w, i + 1, c, order).multiply(BigInteger.valueOf(16 - c));
        w.rains.add(rains.get(i));
        BigInteger with = chance(w, i + 1, c, order).multiply(BigInteger.valueOf(c));
        w.rains.remove(w.rains.size() - 1);
        return without.add(with);
    }

    long shower(int c, int order, int what) {
        World w = world();
        if (c < 0 || c > 16 || order < 0 || order >= w.orders.size() || what < 0 || what > 1) return Long.MIN_VALUE + 2;
        w.rains.clear();
        BigInteger above = chance(w, 0, c, order);
        BigInteger below = BigInteger.valueOf(16).pow(rains.size());
        BigInteger common = above.gcd(below);
        return (what == 0 ? above : below).divide(common).longValueExact();
    }

    int moon(int seed, int n, int what) {
        if (n < 0 || n > 40 || what < 0 || what > 1) return BAD;
        World w = world();
        w.tides.clear();
        long lot = seed & 0xffffffffL;
        for (int i = 0; i < n; i++) {
            lot = (1103515245L * lot + 12345L) % (1L << 32);
            w.tides.add((int) (lot / 65536 % 10));
        }
        Day d = day(w);
        return what == 0 ? d.sacks.get(39) : sumIn(w, d);
    }

    int found(int number) {
        finding = number;
        return -10 - number;
    }

    int formOf(int s) {
        return sheets[s] instanceof byte[] ? 0 : sheets[s] instanceof short[] ? 1 : 2;
    }

    int sizeOf(int s) {
        return java.lang.reflect.Array.getLength(sheets[s]);
    }

    int item(int s, int i) {
        return ((Number) java.lang.reflect.Array.get(sheets[s], i)).intValue();
    }

    int sheet(int s, int form, int n) {
        if (s < 0 || s > 3 || form < 0 || form > 2 || n > 60) return BAD;
        if (n < 0) return found(5);
        sheets[s] = form == 0 ? new byte[n] : form == 1 ? new short[n] : new int[n];
        return n;
    }

    int lose(int s) {
        if (s < 0 || s > 3) return BAD;
        if (sheets[s] == null) return found(1);
        int had = sizeOf(s);
        sheets[s] = null;
        return had;
    }

    int put(int s, int form, int i, int v) {
        if (s < 0 || s > 3 || form < 0 || form > 2) return BAD;
        if (sheets[s] == null) return found(1);
        if (formOf(s) != form) return found(3);
        if (i < 0 || i >= sizeOf(s)) return found(2);
        if (sheets[s] instanceof byte[] b) b[i] = (byte) v;
        if (sheets[s] instanceof short[] b) b[i] = (short) v;
        if (sheets[s] instanceof int[] b) b[i] = v;
        return 1;
    }

    int get(int s, int form, int i) {
        if (s < 0 || s > 3 || form < 0 || form > 2) return Integer.MIN_VALUE;
        int number = sheets[s] == null ? 1 : formOf(s) != form ? 3 : i < 0 || i >= sizeOf(s) ? 2 : 0;
        if (number != 0) {
            found(number);
            return Integer.MIN_VALUE;
        }
        return item(s, i);
    }

    int copy(int s, int i, int t, int j, int n) {
        if (s < 0 || s > 3 || t < 0 || t > 3) return BAD;
        if (sheets[s] == null || sheets[t] == null) return found(1);
        if (formOf(s) != formOf(t)) return found(4);
        if (i < 0 || j < 0 || n < 0 || (long) i + n > sizeOf(s) || (long) j + n > sizeOf(t)) return found(2);
        int[] items = new int[n];
        for (int k = 0; k < n; k++) items[k] = item(s, i + k);
        for (int k = 0; k < n; k++) put(t, formOf(t), j + k, items[k]);
        return 1;
    }

    int write(int s) {
        if (s < 0 || s > 3) return BAD;
        if (sheets[s] == null) return found(1);
        int n = 0;
        while (n < 40 && n < sizeOf(s)) {
            put(s, formOf(s), n, at(n, 0));
            n++;
        }
        return n;
    }

    int count(int what) {
        if (what < 0 || what > 8) return BAD;
        World w = world();
        return new int[] {w.tides.size(), w.orders.size(), texts[0].length(), texts[1].length(), rains.size(),
            dressings.size(), day(w).sacks.get(39), looks.size(), finding}[what];
    }

    long digest() {
        List<Long> all = new ArrayList<>();
        for (int i = 0; i <= 7; i++) all.add((long) count(i));
        for (int i = 0; i <= 1; i++) all.add((long) fault(i));
        for (int hour = 0; hour < 40; hour++) {
            all.add((long) sea(hour));
            for (int what = 0; what <= 4; what++) all.add((long) at(hour, what));
        }
        for (int i = 0; i < world().orders.size(); i++) {
            for (int what = 0; what <= 3; what++) all.add((long) order(i, what));
            all.add((long) ends(i));
            all.add(shower(5, i, 0));
            all.add(shower(5, i, 1));
        }
        for (int v : new int[] {paid(), spilt(), idle(), late(), row(0), row(1), row(2), row(3), dress(0), dress(1),
            least(), send(0), send(1), never(), was(0), was(1), ask(), moon(7, 30, 0), moon(7, 30, 1)}) {
            all.add((long) v);
        }
        BigInteger h = BigInteger.valueOf(17);
        for (long v : all) h = h.multiply(BigInteger.valueOf(31)).add(BigInteger.valueOf(v));
        return h.longValue();
    }
}
