import java.util.Arrays;

/** A tide mill: its tides, its orders of grain, its pond, and what may be asked of them. */
public final class TideMill {
    public static final int NONE = -1, BAD = -2, NOT = -3, FULL = -4;

    private static final int HOURS = 40, BRIM = 20, MOST_ORDERS = 8, RAIN_RISE = 3;
    private static final int MOST_RAINS = 6, MOST_DRESSINGS = 6, MOST_SEEN = 8;
    private static final int TIDE_ROOM = 40, ORDER_ROOM = 47, ORDER_STEP = 6;
    private static final int SIXTEENTHS = 16, FIGURES = 10, REACHED_ROOM = 1021;
    private static final int SHEETS = 4, FORMS = 3, SHEET_ROOM = 60;

    private static final int NULL_FOUND = 1, INDEX_FOUND = 2, CAST_FOUND = 3, STORE_FOUND = 4, SIZE_FOUND = 5;
    private static final int LEAST_INT = -2147483648;
    private static final long LEAST_LONG = -9223372036854775808L;

    private static final int START = 0, FLOW = 1, LEAK = 2, HEAD = 3, SHARP = 4, DIALS = 5;
    private static final int[] DIAL_LEAST = {0, 1, 0, 0, 1};
    private static final int[] DIAL_MOST = {20, 9, 9, 9, 9};
    private static final int[] DIAL_FIRST = {10, 4, 0, 2, 5};

    /** By grain (wheat, rye, oats): the head that it wants beyond HEAD, and how much of the pond a sack takes. */
    private static final int[] GRAIN_WANTS = {2, 1, 0};
    private static final int[] GRAIN_TAKES = {3, 2, 1};

    private final Pile[] texts = {new Pile(TIDE_ROOM), new Pile(ORDER_ROOM)};
    private final Pile rains = new Pile(MOST_RAINS);
    private final Pile dressings = new Pile(MOST_DRESSINGS);
    private final Pile seenHours = new Pile(MOST_SEEN);
    private final Pile seenHighs = new Pile(MOST_SEEN);
    private final Sheet[] sheets = {new Sheet(), new Sheet(), new Sheet(), new Sheet()};
    private int finding;

    private final Orders orders = new Orders();
    private final int[] dials = DIAL_FIRST.clone();
    private final Mill told = new Mill(orders);
    private final Run now = new Run();
    private final Mill tried = new Mill(orders);
    private final Run trial = new Run();
    private final Plan plan = new Plan();
    private final long[] chances = new long[MOST_ORDERS];
    private final int[] crowd = new int[HOURS * (BRIM + 1)];

    /** What is worked out from the texts, rains, dressings and dials is kept until one of them changes. */
    private boolean settled;
    private boolean planned;
    private int showered = NONE;

    public TideMill() {
    }

    // ---- tides, orders, the mill, rains, dressings

    public int type(int text, int b) {
        if (!within(text, 0, 1) || !within(b, 0, 255)) {
            return BAD;
        }
        return more(texts[text], b);
    }

    public int wipe(int text) {
        if (!within(text, 0, 1)) {
            return BAD;
        }
        int had = texts[text].size;
        texts[text].size = 0;
        changed();
        return had;
    }

    public int undo(int text) {
        if (!within(text, 0, 1)) {
            return BAD;
        }
        return less(texts[text]);
    }

    public int fault(int text) {
        if (!within(text, 0, 1)) {
            return BAD;
        }
        return text == 0 ? tideFault(texts[0]) : orderFault(texts[1]);
    }

    public int sea(int hour) {
        if (!isHour(hour)) {
            return BAD;
        }
        settle();
        return told.sea[hour];
    }

    public int order(int order, int what) {
        if (!isOrder(order) || !within(what, 0, 3)) {
            return BAD;
        }
        switch (what) {
            case 0:
                return orders.grain[order];
            case 1:
                return orders.sacks[order];
            case 2:
                return orders.due[order];
            default:
                return orders.pay[order];
        }
    }

    public int set(int what, int v) {
        if (!within(what, 0, DIALS - 1) || !within(v, DIAL_LEAST[what], DIAL_MOST[what])) {
            return BAD;
        }
        int was = dials[what];
        dials[what] = v;
        changed();
        return was;
    }

    public int rain(int hour) {
        return isHour(hour) ? more(rains, hour) : BAD;
    }

    public int dressing(int hour) {
        return isHour(hour) ? more(dressings, hour) : BAD;
    }

    public int back(int what) {
        if (!within(what, 0, 1)) {
            return BAD;
        }
        return less(what == 0 ? rains : dressings);
    }

    public int read(int s) {
        if (!isSheet(s)) {
            return BAD;
        }
        Sheet sheet = sheets[s];
        if (sheet.isLost()) {
            return found(NULL_FOUND);
        }
        int came = 0;
        while (came < sheet.size && isHour(sheet.items[came]) && !rains.isFull()) {
            rains.add(sheet.items[came]);
            came++;
        }
        changed();
        return came;
    }

    // ---- hours

    public int at(int hour, int what) {
        if (!isHour(hour) || !within(what, 0, 4)) {
            return BAD;
        }
        settle();
        switch (what) {
            case 0:
                return now.high[hour];
            case 1:
                return now.sacks[hour];
            case 2:
                return now.order[hour];
            case 3:
                return now.idle[hour];
            default:
                return now.dull[hour];
        }
    }

    public int ends(int order) {
        return isOrder(order) ? now.ends[order] : BAD;
    }

    public int paid() {
        settle();
        return now.sumPaid(orders);
    }

    public int spilt() {
        settle();
        return now.pond.spilt;
    }

    public int idle() {
        settle();
        return now.idleHours;
    }

    public int late() {
        settle();
        int bits = 0;
        for (int order = 0; order < orders.size; order++) {
            if (!now.pays(orders, order)) {
                bits |= 1 << order;
            }
        }
        return bits;
    }

    // ---- plans

    public int row(int what) {
        if (!within(what, 0, MOST_ORDERS)) {
            return BAD;
        }
        settle();
        if (what > orders.size || orders.size == 0) {
            return NONE;
        }
        if (!planned) {
            plan.look(told);
            planned = true;
        }
        return what == 0 ? plan.most : plan.best[what - 1];
    }

    public int dress(int what) {
        if (!within(what, 0, 1)) {
            return BAD;
        }
        settle();
        int best = 0;
        int most = NONE;
        for (int hour = 0; hour < HOURS; hour++) {
            tried.becomeLike(told);
            tried.dressings[hour]++;
            trial.play(tried);
            if (trial.allSacks() > most) {
                best = hour;
                most = trial.allSacks();
            }
        }
        return what == 0 ? best : most;
    }

    public int least() {
        settle();
        tried.becomeLike(told);
        for (int start = 0; start <= BRIM; start++) {
            tried.dials[START] = start;
            trial.play(tried);
            if (trial.endsAll(orders)) {
                return start;
            }
        }
        return NONE;
    }

    public int send(int what) {
        if (!within(what, 0, 1)) {
            return BAD;
        }
        settle();
        int best = NONE;
        int most = NONE;
        for (int order = 0; order < orders.size; order++) {
            tried.becomeLike(told);
            tried.sendAway(order);
            trial.play(tried);
            int paid = trial.sumPaid(orders);
            if (paid > most) {
                best = order;
                most = paid;
            }
        }
        return what == 0 ? best : most;
    }

    // ---- seen, showers, moons

    public int seen(int hour, int high) {
        if (!isHour(hour) || !within(high, 0, BRIM)) {
            return BAD;
        }
        if (seenHours.isFull()) {
            return FULL;
        }
        seenHours.add(hour);
        seenHighs.add(high);
        return seenHours.size;
    }

    public int forget() {
        int had = seenHours.size;
        seenHours.size = 0;
        seenHighs.size = 0;
        return had;
    }

    public int never() {
        settle();
        int bits = 0;
        for (int rain = 0; rain < rains.size; rain++) {
            tried.becomeLike(told);
            tried.rains[rains.items[rain]]--;
            if (comesOutSo()) {
                bits |= 1 << rain;
            }
        }
        return bits;
    }

    public int was(int what) {
        if (!within(what, 0, 1)) {
            return BAD;
        }
        int dial = what == 0 ? FLOW : START;
        settle();
        tried.becomeLike(told);
        int bits = 0;
        for (int v = DIAL_LEAST[dial]; v <= DIAL_MOST[dial]; v++) {
            tried.dials[dial] = v;
            if (comesOutSo()) {
                bits |= 1 << v;
            }
        }
        return bits;
    }

    public int ask() {
        settle();
        countCrowd();
        int best = 0;
        int least = greatestCrowd(0);
        for (int hour = 1; hour < HOURS; hour++) {
            int greatest = greatestCrowd(hour);
            if (greatest < least) {
                best = hour;
                least = greatest;
            }
        }
        return best;
    }

    public long shower(int c, int order, int what) {
        if (!within(c, 0, SIXTEENTHS) || !isOrder(order) || !within(what, 0, 1)) {
            return LEAST_LONG - BAD;
        }
        if (showered != c) {
            weighShowers(c);
            showered = c;
        }
        long above = chances[order];
        long below = power(SIXTEENTHS, rains.size);
        // what is below is two to the power of four for each rain, so halving is all that lowest terms can need
        for (int i = 0; i < 4 * rains.size && above % 2 == 0; i++) {
            above /= 2;
            below /= 2;
        }
        return what == 0 ? above : below;
    }

    public int moon(int seed, int n, int what) {
        if (!within(n, 0, HOURS) || !within(what, 0, 1)) {
            return BAD;
        }
        settle();
        tried.becomeLike(told);
        int lot = seed;
        for (int hour = 0; hour < HOURS; hour++) {
            lot = 1103515245 * lot + 12345;
            tried.sea[hour] = hour < n ? 2 * ((lot >>> 16) % FIGURES) : 0;
        }
        trial.play(tried);
        return what == 0 ? trial.allSacks() : trial.sumPaid(orders);
    }

    // ---- sheets

    public int sheet(int s, int form, int n) {
        if (!isSheet(s) || !isForm(form) || n > SHEET_ROOM) {
            return BAD;
        }
        if (n < 0) {
            return found(SIZE_FOUND);
        }
        sheets[s].begin(form, n);
        return n;
    }

    public int lose(int s) {
        if (!isSheet(s)) {
            return BAD;
        }
        Sheet sheet = sheets[s];
        if (sheet.isLost()) {
            return found(NULL_FOUND);
        }
        int had = sheet.size;
        sheet.begin(NONE, 0);
        return had;
    }

    public int put(int s, int form, int i, int v) {
        if (!isSheet(s) || !isForm(form)) {
            return BAD;
        }
        int wrong = sheets[s].wrongWith(form, i);
        if (wrong != 0) {
            return found(wrong);
        }
        sheets[s].store(i, v);
        return 1;
    }

    public int get(int s, int form, int i) {
        if (!isSheet(s) || !isForm(form)) {
            return LEAST_INT;
        }
        int wrong = sheets[s].wrongWith(form, i);
        if (wrong != 0) {
            finding = wrong;
            return LEAST_INT;
        }
        return sheets[s].items[i];
    }

    public int copy(int s, int i, int t, int j, int n) {
        if (!isSheet(s) || !isSheet(t)) {
            return BAD;
        }
        Sheet from = sheets[s];
        Sheet to = sheets[t];
        if (from.isLost() || to.isLost()) {
            return found(NULL_FOUND);
        }
        if (from.form != to.form) {
            return found(STORE_FOUND);
        }
        if (!from.holds(i, n) || !to.holds(j, n)) {
            return found(INDEX_FOUND);
        }
        System.arraycopy(from.items, i, to.items, j, n);
        return 1;
    }

    public int write(int s) {
        if (!isSheet(s)) {
            return BAD;
        }
        Sheet sheet = sheets[s];
        if (sheet.isLost()) {
            return found(NULL_FOUND);
        }
        settle();
        int n = Math.min(sheet.size, HOURS);
        for (int hour = 0; hour < n; hour++) {
            sheet.store(hour, now.high[hour]);
        }
        return n;
    }

    public int count(int what) {
        settle();
        switch (what) {
            case 0:
                return tideFault(texts[0]) == NONE ? texts[0].size : 0;
            case 1:
                return orders.size;
            case 2:
                return texts[0].size;
            case 3:
                return texts[1].size;
            case 4:
                return rains.size;
            case 5:
                return dressings.size;
            case 6:
                return now.allSacks();
            case 7:
                return seenHours.size;
            case 8:
                return finding;
            default:
                return BAD;
        }
    }

    public long digest() {
        long h = 17;
        for (int what = 0; what <= 7; what++) {
            h = 31 * h + count(what);
        }
        h = 31 * h + fault(0);
        h = 31 * h + fault(1);
        for (int hour = 0; hour < HOURS; hour++) {
            h = 31 * h + sea(hour);
            for (int what = 0; what <= 4; what++) {
                h = 31 * h + at(hour, what);
            }
        }
        for (int order = 0; order < orders.size; order++) {
            for (int what = 0; what <= 3; what++) {
                h = 31 * h + order(order, what);
            }
            h = 31 * h + ends(order);
            h = 31 * h + shower(5, order, 0);
            h = 31 * h + shower(5, order, 1);
        }
        h = 31 * h + paid();
        h = 31 * h + spilt();
        h = 31 * h + idle();
        h = 31 * h + late();
        for (int what = 0; what <= 3; what++) {
            h = 31 * h + row(what);
        }
        h = 31 * h + dress(0);
        h = 31 * h + dress(1);
        h = 31 * h + least();
        h = 31 * h + send(0);
        h = 31 * h + send(1);
        h = 31 * h + never();
        h = 31 * h + was(0);
        h = 31 * h + was(1);
        h = 31 * h + ask();
        h = 31 * h + moon(7, 30, 0);
        return 31 * h + moon(7, 30, 1);
    }

    // ---- what the calls share

    private static boolean within(int v, int least, int most) {
        return v >= least && v <= most;
    }

    private static boolean isHour(int hour) {
        return within(hour, 0, HOURS - 1);
    }

    private static boolean isSheet(int s) {
        return within(s, 0, SHEETS - 1);
    }

    private static boolean isForm(int form) {
        return within(form, 0, FORMS - 1);
    }

    private boolean isOrder(int order) {
        settle();
        return within(order, 0, orders.size - 1);
    }

    private int found(int number) {
        finding = number;
        return -10 - number;
    }

    private int more(Pile pile, int item) {
        if (pile.isFull()) {
            return FULL;
        }
        pile.add(item);
        changed();
        return pile.size;
    }

    private int less(Pile pile) {
        if (pile.size == 0) {
            return NOT;
        }
        pile.size--;
        changed();
        return pile.size;
    }

    private void changed() {
        settled = false;
        planned = false;
        showered = NONE;
    }

    /** Works out the mill as it is told, and its hours, if anything has changed since. */
    private void settle() {
        if (settled) {
            return;
        }
        orders.readFrom(texts[1]);
        told.tell(texts[0], dials);
        countHours(rains, told.rains);
        countHours(dressings, told.dressings);
        now.play(told);
        settled = true;
    }

    private static void countHours(Pile hours, int[] counts) {
        Arrays.fill(counts, 0);
        for (int i = 0; i < hours.size; i++) {
            counts[hours.items[i]]++;
        }
    }

    /** Whether the mill that is tried makes all that was seen come out so. */
    private boolean comesOutSo() {
        trial.play(tried);
        for (int i = 0; i < seenHours.size; i++) {
            if (trial.high[seenHours.items[i]] != seenHighs.items[i]) {
                return false;
            }
        }
        return true;
    }

    /** Counts, for each hour and height, the starts that fit what was seen and bring the pond there. */
    private void countCrowd() {
        Arrays.fill(crowd, 0);
        tried.becomeLike(told);
        for (int start = 0; start <= BRIM; start++) {
            tried.dials[START] = start;
            if (comesOutSo()) {
                for (int hour = 0; hour < HOURS; hour++) {
                    crowd[hour * (BRIM + 1) + trial.high[hour]]++;
                }
            }
        }
    }

    private int greatestCrowd(int hour) {
        int greatest = 0;
        for (int high = 0; high <= BRIM; high++) {
            greatest = Math.max(greatest, crowd[hour * (BRIM + 1) + high]);
        }
        return greatest;
    }

    /** Weighs all orders at once: the runs are the same for each of them. */
    private void weighShowers(int c) {
        Arrays.fill(chances, 0);
        tried.becomeLike(told);
        for (int fallen = 0; fallen < 1 << rains.size; fallen++) {
            int falls = Integer.bitCount(fallen);
            long weight = power(c, falls) * power(SIXTEENTHS - c, rains.size - falls);
            if (weight > 0) {
                Arrays.fill(tried.rains, 0);
                for (int rain = 0; rain < rains.size; rain++) {
                    tried.rains[rains.items[rain]] += fallen >> rain & 1;
                }
                trial.play(tried);
                for (int order = 0; order < orders.size; order++) {
                    chances[order] += trial.pays(orders, order) ? weight : 0;
                }
            }
        }
    }

    private static long power(int base, int times) {
        long power = 1;
        for (int i = 0; i < times; i++) {
            power *= base;
        }
        return power;
    }

    private static boolean isFigure(int b, char least, char most) {
        return b >= least && b <= most;
    }

    private static int tideFault(Pile text) {
        for (int i = 0; i < text.size; i++) {
            if (!isFigure(text.items[i], '0', '9')) {
                return i;
            }
        }
        return NONE;
    }

    /** A ninth order needs no look: its first byte would be the 49th, and there is room for 47. */
    private static int orderFault(Pile text) {
        for (int i = 0; i < text.size; i++) {
            if (!fitsOrder(text.items[i], i % ORDER_STEP)) {
                return i;
            }
        }
        boolean ended = text.size == 0 || text.size % ORDER_STEP == ORDER_STEP - 1;
        return ended ? NONE : text.size;
    }

    private static boolean fitsOrder(int b, int place) {
        switch (place) {
            case 0:
                return b == 'w' || b == 'r' || b == 'o';
            case 1:
                return isFigure(b, '1', '9');
            case 2:
                return isFigure(b, '0', '3');
            case 5:
                return b == ';';
            default:
                return isFigure(b, '0', '9');
        }
    }

    /** A row of numbers with a limit: a text's bytes, or the hours of rains. */
    private static final class Pile {
        final int[] items;
        int size;

        Pile(int room) {
            items = new int[Math.max(room, 0)];
        }

        boolean isFull() {
            return size >= items.length;
        }

        void add(int item) {
            if (!isFull()) {
                items[size] = item;
                size++;
            }
        }
    }

    /** A row of a form; its room is made once, so that new rows cost nothing. */
    private static final class Sheet {
        final int[] items = new int[SHEET_ROOM];
        int form = NONE;
        int size;

        void begin(int newForm, int newSize) {
            form = newForm;
            size = newSize;
            Arrays.fill(items, 0);
        }

        boolean isLost() {
            return form == NONE;
        }

        boolean holds(int from, int n) {
            return from >= 0 && n >= 0 && n <= size - from;
        }

        /** The finding with which an item, treated as of a form, is refused; 0 if it is not. */
        int wrongWith(int asForm, int i) {
            if (isLost()) {
                return NULL_FOUND;
            }
            if (form != asForm) {
                return CAST_FOUND;
            }
            return holds(i, 1) ? 0 : INDEX_FOUND;
        }

        void store(int i, int v) {
            items[i] = form == 0 ? (byte) v : form == 1 ? (short) v : v;
        }
    }

    private static final class Orders {
        final int[] grain = new int[MOST_ORDERS];
        final int[] sacks = new int[MOST_ORDERS];
        final int[] due = new int[MOST_ORDERS];
        final int[] pay = new int[MOST_ORDERS];
        int size;

        void readFrom(Pile text) {
            size = 0;
            if (orderFault(text) != NONE) {
                return;
            }
            for (int i = 0; i + ORDER_STEP - 1 <= text.size && size < MOST_ORDERS; i += ORDER_STEP) {
                int sign = text.items[i];
                grain[size] = sign == 'w' ? 0 : sign == 'r' ? 1 : 2;
                sacks[size] = text.items[i + 1] - '0';
                due[size] = (text.items[i + 2] - '0') * 10 + text.items[i + 3] - '0';
                pay[size] = text.items[i + 4] - '0';
                size++;
            }
        }
    }

    /** What a run of hours depends on: the mill as it is told, or with a change that is tried. */
    private static final class Mill {
        final Orders orders;
        final int[] dials = new int[DIALS];
        final int[] sea = new int[HOURS];
        final int[] rains = new int[HOURS];
        final int[] dressings = new int[HOURS];
        final int[] row = new int[MOST_ORDERS];
        int rowSize;

        Mill(Orders orders) {
            this.orders = orders;
        }

        void tell(Pile tides, int[] toldDials) {
            int told = tideFault(tides) == NONE ? tides.size : 0;
            for (int hour = 0; hour < HOURS; hour++) {
                sea[hour] = hour < told ? 2 * (tides.items[hour] - '0') : 0;
            }
            System.arraycopy(toldDials, 0, dials, 0, DIALS);
            rowSize = orders.size;
            for (int i = 0; i < rowSize; i++) {
                row[i] = i;
            }
        }

        void becomeLike(Mill other) {
            System.arraycopy(other.dials, 0, dials, 0, DIALS);
            System.arraycopy(other.sea, 0, sea, 0, HOURS);
            System.arraycopy(other.rains, 0, rains, 0, HOURS);
            System.arraycopy(other.dressings, 0, dressings, 0, HOURS);
            System.arraycopy(other.row, 0, row, 0, MOST_ORDERS);
            rowSize = other.rowSize;
        }

        void sendAway(int order) {
            int kept = 0;
            for (int i = 0; i < rowSize; i++) {
                if (row[i] != order) {
                    row[kept] = row[i];
                    kept++;
                }
            }
            rowSize = kept;
        }
    }

    /** The pond and the stones, on their way through the hours. */
    private static final class Pond {
        int hour;
        int high;
        int ground;
        int spilt;

        void begin(Mill mill) {
            hour = 0;
            high = mill.dials[START];
            ground = 0;
            spilt = 0;
        }

        void becomeLike(Pond other) {
            hour = other.hour;
            high = other.high;
            ground = other.ground;
            spilt = other.spilt;
        }

        /** An hour goes by with a grain (or NONE) at the stones: whether a sack of it is ground. */
        boolean pass(Mill mill, int grain) {
            if (hour < 0 || hour >= HOURS) {
                return false;
            }
            int sea = mill.sea[hour];
            high += Math.min(Math.max(sea - high, 0), mill.dials[FLOW]) + RAIN_RISE * mill.rains[hour];
            if (high > BRIM) {
                spilt += high - BRIM;
                high = BRIM;
            }
            high = Math.max(high - mill.dials[LEAK], 0);
            boolean dressed = mill.dressings[hour] > 0;
            hour++;
            if (dressed) {
                ground = 0;
                return false;
            }
            if (grain == NONE || high - sea < mill.dials[HEAD] + GRAIN_WANTS[grain] + dullness(mill)) {
                return false;
            }
            high = Math.max(high - GRAIN_TAKES[grain], 0);
            ground++;
            return true;
        }

        int dullness(Mill mill) {
            int sharp = mill.dials[SHARP];
            return sharp > 0 ? ground / sharp : 0;
        }
    }

    /** All hours of a mill, and what they bring. */
    private static final class Run {
        final Pond pond = new Pond();
        final int[] high = new int[HOURS];
        final int[] sacks = new int[HOURS];
        final int[] order = new int[HOURS];
        final int[] idle = new int[HOURS];
        final int[] dull = new int[HOURS];
        final int[] ends = new int[MOST_ORDERS];
        int idleHours;

        void play(Mill mill) {
            Arrays.fill(ends, NONE);
            idleHours = 0;
            pond.begin(mill);
            int place = 0;
            int groundOfIt = 0;
            int groundInAll = 0;
            for (int hour = 0; hour < HOURS; hour++) {
                int first = place < mill.rowSize ? mill.row[place] : NONE;
                boolean ground = pond.pass(mill, first == NONE ? NONE : mill.orders.grain[first]);
                if (ground) {
                    groundInAll++;
                    groundOfIt++;
                }
                if (ground && groundOfIt == mill.orders.sacks[first]) {
                    ends[first] = hour;
                    place++;
                    groundOfIt = 0;
                }
                order[hour] = mill.dressings[hour] > 0 ? NONE : first;
                idle[hour] = order[hour] != NONE && !ground ? 1 : 0;
                idleHours += idle[hour];
                high[hour] = pond.high;
                sacks[hour] = groundInAll;
                dull[hour] = pond.dullness(mill);
            }
        }

        int allSacks() {
            return sacks[HOURS - 1];
        }

        boolean pays(Orders orders, int order) {
            return ends[order] != NONE && ends[order] <= orders.due[order];
        }

        int sumPaid(Orders orders) {
            int paid = 0;
            for (int order = 0; order < orders.size; order++) {
                paid += pays(orders, order) ? orders.pay[order] : 0;
            }
            return paid;
        }

        boolean endsAll(Orders orders) {
            for (int order = 0; order < orders.size; order++) {
                if (ends[order] == NONE) {
                    return false;
                }
            }
            return true;
        }
    }

    /** The search for the row of orders that pays most: rows in rising order, each head of a row ground once. */
    private static final class Plan {
        final Pond[] ponds = new Pond[MOST_ORDERS + 1];
        final int[] row = new int[MOST_ORDERS];
        final int[] best = new int[MOST_ORDERS];
        final int[] reached = new int[REACHED_ROOM];
        final int[] reachedPaid = new int[REACHED_ROOM];
        int most;

        Plan() {
            for (int i = 0; i < ponds.length; i++) {
                ponds[i] = new Pond();
            }
        }

        void look(Mill mill) {
            most = NONE;
            Arrays.fill(reached, NONE);
            ponds[0].begin(mill);
            extend(this, mill, 0, 0, 0);
        }

        private static void extend(Plan plan, Mill mill, int depth, int taken, int paid) {
            Orders orders = mill.orders;
            if (paid + hope(orders, plan.ponds[depth].hour, taken) <= plan.most) {
                return;
            }
            if (depth >= orders.size) {
                plan.most = paid;
                System.arraycopy(plan.row, 0, plan.best, 0, depth);
                return;
            }
            if (plan.reachedBefore(plan.ponds[depth], taken, paid)) {
                return;
            }
            for (int order = 0; order < orders.size; order++) {
                if ((taken >> order & 1) == 0) {
                    plan.row[depth] = order;
                    boolean pays = plan.grind(mill, depth, order);
                    extend(plan, mill, depth + 1, taken | 1 << order, paid + (pays ? orders.pay[order] : 0));
                }
            }
        }

        /**
         * Whether a lesser head of a row, of the same orders, left the same pond and stones and paid no less: then
         * nothing better comes of this one. A place holds the latest alone, so some are forgotten, which costs time only.
         */
        private boolean reachedBefore(Pond pond, int taken, int paid) {
            int where = ((taken * (HOURS + 1) + pond.hour) * (BRIM + 1) + pond.high) * (HOURS + 1) + pond.ground;
            int place = where % REACHED_ROOM;
            if (reached[place] == where && reachedPaid[place] >= paid) {
                return true;
            }
            reached[place] = where;
            reachedPaid[place] = paid;
            return false;
        }

        /** The most that the orders not yet taken could still pay, with a sack ground in each hour. */
        private static int hope(Orders orders, int hour, int taken) {
            int hope = 0;
            for (int order = 0; order < orders.size; order++) {
                if ((taken >> order & 1) == 0 && hour + orders.sacks[order] - 1 <= orders.due[order]) {
                    hope += orders.pay[order];
                }
            }
            return hope;
        }

        /** Grinds one order more behind a head of a row: whether it is paid. */
        private boolean grind(Mill mill, int depth, int order) {
            Pond pond = ponds[depth + 1];
            pond.becomeLike(ponds[depth]);
            int left = mill.orders.sacks[order];
            for (int hour = pond.hour; left > 0 && hour < HOURS; hour++) {
                if (pond.pass(mill, mill.orders.grain[order])) {
                    left--;
                }
            }
            return left == 0 && pond.hour - 1 <= mill.orders.due[order];
        }
    }
}
