import java.util.ArrayList;
import java.util.List;

/** All that calls can tell of an object, as a row of numbers. Looking may change it: make it anew for each look. */
final class View {
    private View() {
    }

    /** Texts, dials, RAINS, DRESSINGS and SEEN; RAINS and DRESSINGS are told one from the other by undoing them. */
    static List<Long> ofMill(TideMill x) {
        List<Long> all = new ArrayList<>();
        for (int what = 0; what <= 7; what++) {
            all.add((long) x.count(what));
        }
        all.add(x.digest());
        for (int what = 0; what <= 4; what++) {
            int was = x.set(what, 1);
            all.add((long) was);
            x.set(what, was);
        }
        for (int what = 0; what <= 1; what++) {
            for (int i = 0; i < 7 && x.back(what) >= 0; i++) {
                all.add(x.digest());
            }
        }
        all.add((long) x.forget());
        all.add(x.digest());
        for (int text = 0; text <= 1; text++) {
            for (int i = 0; i < 48 && x.fault(text) >= 0; i++) {
                all.add((long) x.undo(text));
            }
        }
        for (int hour = 0; hour < 40; hour++) {
            all.add((long) x.sea(hour));
        }
        for (int i = 0; i < 4 * x.count(1); i++) {
            all.add((long) x.order(i / 4, i % 4));
        }
        return all;
    }

    /** Of each SHEET its FORM (3: LOST), its items, and how many they are. */
    static List<Long> ofSheets(TideMill x) {
        List<Long> all = new ArrayList<>();
        for (int s = 0; s < 4; s++) {
            int form = formOf(x, s);
            all.add((long) form);
            x.sheet(0, 0, -1);
            for (int i = 0; form < 3 && i <= 60 && x.count(8) == 5; i++) {
                all.add((long) x.get(s, form, i));
            }
            all.add((long) x.lose(s));
        }
        return all;
    }

    /** Item -1 is refused as INDEX by the FORM that the SHEET has alone. */
    private static int formOf(TideMill x, int s) {
        for (int form = 0; form < 3; form++) {
            x.get(s, form, -1);
            if (x.count(8) == 2) {
                return form;
            }
        }
        return 3;
    }

    /** Promise 37 over again, by the other calls. */
    static long digestOf(TideMill x) {
        long h = 17;
        for (int what = 0; what <= 7; what++) h = h * 31 + x.count(what);
        for (int text = 0; text <= 1; text++) h = h * 31 + x.fault(text);
        for (int hour = 0; hour < 40; hour++) {
            h = h * 31 + x.sea(hour);
            for (int what = 0; what <= 4; what++) h = h * 31 + x.at(hour, what);
        }
        for (int order = 0; order < x.count(1); order++) {
            for (int what = 0; what <= 3; what++) h = h * 31 + x.order(order, what);
            for (long v : new long[] {x.ends(order), x.shower(5, order, 0), x.shower(5, order, 1)}) h = h * 31 + v;
        }
        int[] rest = {x.paid(), x.spilt(), x.idle(), x.late(), x.row(0), x.row(1), x.row(2), x.row(3), x.dress(0), x.dress(1),
            x.least(), x.send(0), x.send(1), x.never(), x.was(0), x.was(1), x.ask(), x.moon(7, 30, 0), x.moon(7, 30, 1)};
        for (int v : rest) h = h * 31 + v;
        return h;
    }
}
