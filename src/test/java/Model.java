import java.util.ArrayList;
import java.util.List;

/** The whole desk by the words of the document, in the plainest form, with lists and texts. */
final class Model {
    private static final int NONE = -1;
    private static final int[] MARK_TOP = {46, 8, 999, 9999, 9999, 9, 2};

    /** A FOLDING: its THINGS (as a ROW) and what is in its PLACES. */
    private static final class Folded {
        final Oracle row = new Oracle();
        Oracle.Fold fold = new Oracle.Fold();

        int at(int q, int p) {
            if (q < 0 || q >= fold.quires.size() || p < 1 || p > fold.quires.get(q).length) {
                return NONE;
            }
            return fold.quires.get(q)[p - 1];
        }

        boolean cancelled(int i) {
            return row.kind(i) == 2 && i + 1 < row.things.size() && row.kind(i + 1) == 4;
        }

        /** 0 no such PLACE, 1 a GHOST, 2 a LEAF, 3 a STUB without, 4 a STUB with a CANCEL. */
        int there(int q, int p) {
            int i = at(q, p);
            if (i < 0) {
                return i == NONE ? 0 : 1;
            }
            return row.kind(i) == 1 ? 2 : cancelled(i) ? 4 : 3;
        }
    }

    /** Of each ROW its THINGS, with how many MARKS they have behind the 7 MARKS. */
    private final List<Oracle> rows = new ArrayList<>();
    private Folded folding = null;
    private final Folded[] kept = new Folded[4];
    private String out = "";
    private String tape = "";
    private int fault = 0;
    private int faultAt = NONE;

    Model() {
        for (int row = 0; row < 6; row++) {
            rows.add(new Oracle());
        }
    }

    private Oracle row(int row) {
        return row < 0 || row > 5 ? null : rows.get(row);
    }

    private int[] thing(int row, int i) {
        Oracle o = row(row);
        return o == null || i < 0 || i >= o.things.size() ? null : o.things.get(i);
    }

    int put(int row, int at, int kind) {
        Oracle o = row(row);
        if (o == null || at < 0 || at > o.things.size() || kind < 1 || kind > 5
                || o.things.size() == 30) {
            return NONE;
        }
        o.things.add(at, new int[] {kind, 0, 0, 0, 0, 0, 0, 0, 7});
        return o.things.size();
    }

    int gone(int row, int i) {
        if (thing(row, i) == null) {
            return NONE;
        }
        row(row).things.remove(i);
        return row(row).things.size();
    }

    boolean mark(int row, int i, int what, int v) {
        int[] t = thing(row, i);
        if (t == null || what < 0 || what > 6 || v < 0 || v > MARK_TOP[what] || what >= t[8]) {
            return false;
        }
        t[1 + what] = v;
        return true;
    }

    int tear(int row, int i, int n) {
        int[] t = thing(row, i);
        if (t == null || n < 0) {
            return NONE;
        }
        t[8] = Math.min(t[8], n);
        for (int what = 0; what < 7; what++) {
            t[1 + what] = what < t[8] ? t[1 + what] : 0;
        }
        return t[8];
    }

    int look(int row, int i, int what) {
        int[] t = thing(row, i);
        return t == null || what < NONE || what > 6 ? NONE : t[1 + what];
    }

    int about(int row, int what) {
        Oracle o = row(row);
        if (o == null || what < 0 || what > 5) {
            return NONE;
        }
        int hanging = 0;
        for (int[] t : o.things) {
            hanging += t[0] <= 2 ? 1 : 0;
        }
        return new int[] {o.things.size(), hanging, o.sizes, o.signed, o.letter, o.page}[what];
    }

    boolean rule(int row, int what, int v) {
        Oracle o = row(row);
        if (o == null) {
            return false;
        }
        if (what == 2 && v >= 1 && v <= 15) {
            o.sizes = v;
        } else if (what == 3 && v >= 0 && v <= 8) {
            o.signed = v;
        } else if (what == 4 && v >= 1 && v <= 39) {
            o.letter = v;
        } else if (what == 5 && v >= 0 && v <= 999) {
            o.page = v;
        } else {
            return false;
        }
        return true;
    }

    long ways(int row) {
        return row(row) == null ? NONE : new Counter(row(row)).ways();
    }

    boolean pick(int row, long k) {
        return row(row) != null && made(row(row), new Counter(row(row)).pick(k));
    }

    int fewest(int row) {
        boolean made = row(row) != null && made(row(row), new Counter(row(row)).fewest());
        return made ? folding.fold.ghosts() : NONE;
    }

    private boolean made(Oracle o, Oracle.Fold f) {
        if (f == null) {
            return false;
        }
        folding = new Folded();
        folding.fold = f;
        for (int[] t : o.things) {
            folding.row.things.add(t.clone());
        }
        folding.row.letter = o.letter;
        folding.row.page = o.page;
        return true;
    }

    int why(int row) {
        return row(row) == null ? NONE : new Counter(row(row)).why();
    }

    int folding(int what) {
        if (what < 0 || what > 4) {
            return NONE;
        }
        if (folding == null) {
            return 0;
        }
        int places = 0;
        for (int[] quire : folding.fold.quires) {
            places += quire.length;
        }
        return new int[] {folding.fold.quires.size(), folding.row.things.size(),
            folding.fold.ghosts(), places, folding.row.letter}[what];
    }

    int size(int q) {
        boolean none = folding == null || q < 0 || q >= folding.fold.quires.size();
        return none ? NONE : folding.fold.quires.get(q).length;
    }

    int place(int q, int p) {
        return folding == null ? NONE : folding.at(q, p);
    }

    int hung(int i, int what) {
        if (folding == null || i < 0 || what < 0 || what > 2) {
            return NONE;
        }
        for (int q = 0; q < folding.fold.quires.size(); q++) {
            int[] quire = folding.fold.quires.get(q);
            for (int p = 1; p <= quire.length; p++) {
                if (quire[p - 1] == i) {
                    return new int[] {q, p, quire[quire.length - p]}[what];
                }
            }
        }
        return NONE;
    }

    int where(int q, int p, int what) {
        if (place(q, p) == NONE || what < 0 || what > 1) {
            return NONE;
        }
        int places = 0;
        int before = NONE;
        for (int quire = 0; quire <= q; quire++) {
            for (int at = 1; at <= size(quire) && (quire < q || at < p); at++) {
                places++;
                before = place(quire, at);
            }
        }
        if (what == 0) {
            return folding.row.page == 0 ? 0 : folding.row.page + 2 * places;
        }
        return before < 0 ? 0 : folding.row.mark(before, 4);
    }

    int write() {
        if (folding == null) {
            return NONE;
        }
        out = folding.row.formula(folding.fold);
        return out.length();
    }

    int out(int i) {
        return i < 0 || i >= out.length() ? NONE : out.charAt(i);
    }

    int feed(int... five) {
        if (tape.length() + 20 > 400) {
            return NONE;
        }
        StringBuilder s = new StringBuilder(tape);
        for (int four : five) {
            for (int shift = 24; shift >= 0; shift -= 8) {
                s.append((char) (four >> shift & 255));
            }
        }
        tape = s.toString();
        return tape.length();
    }

    int end(int n) {
        if (n < 0 || n > tape.length()) {
            return NONE;
        }
        tape = tape.substring(0, n);
        return n;
    }

    int onTape() {
        return tape.length();
    }

    int take() {
        tape = out.substring(0, Math.min(400, out.length()));
        return tape.length();
    }

    int read() {
        ReadOracle r = new ReadOracle(tape);
        tape = "";
        fault = r.fault;
        faultAt = r.at;
        if (r.fault != 0) {
            return NONE;
        }
        made(r.row, r.fold);
        return r.row.things.size();
    }

    int fault(int what) {
        return what == 0 ? fault : what == 1 ? faultAt : NONE;
    }

    /** A FOLDING is never changed, so that it need not be made again to be kept. */
    boolean copy(int k) {
        if (folding == null || k < 0 || k > 3) {
            return false;
        }
        kept[k] = folding;
        return true;
    }

    private Folded kept(int k) {
        return k < 0 || k > 3 ? null : kept[k];
    }

    /** QUIRE, PLACE, what is there in a, and in b, of each at which they DIFFER. */
    private List<int[]> unlike(int a, int b) {
        if (kept(a) == null || kept(b) == null) {
            return null;
        }
        List<int[]> all = new ArrayList<>();
        for (int q = 0; q < 8; q++) {
            for (int p = 1; p <= 8; p++) {
                int inA = kept(a).there(q, p);
                int inB = kept(b).there(q, p);
                if (inA != inB) {
                    all.add(new int[] {q, p, inA, inB});
                }
            }
        }
        return all;
    }

    int against(int a, int b) {
        List<int[]> all = unlike(a, b);
        return all == null ? NONE : all.size();
    }

    int differs(int a, int b, int i, int what) {
        List<int[]> all = unlike(a, b);
        boolean none = all == null || i < 0 || i >= all.size() || what < 0 || what > 3;
        return none ? NONE : all.get(i)[what];
    }

    int ideal(int a, int b) {
        Folded x = kept(a);
        Folded y = kept(b);
        if (x == null || y == null || x.row.letter != y.row.letter) {
            return NONE;
        }
        Folded both = new Folded();
        both.row.letter = x.row.letter;
        addLoose(both, x, 0);
        int quires = Math.max(x.fold.quires.size(), y.fold.quires.size());
        for (int q = 0; q < quires; q++) {
            int inX = q < x.fold.quires.size() ? x.fold.quires.get(q).length : 0;
            int inY = q < y.fold.quires.size() ? y.fold.quires.get(q).length : 0;
            if (inX != 0 && inY != 0 && inX != inY) {
                return NONE;
            }
            both.fold = both.fold.with(joined(both, x, y, q, Math.max(inX, inY)));
        }
        if (both.row.things.size() > 30) {
            return NONE;
        }
        folding = both;
        return both.row.things.size();
    }

    private static int[] joined(Folded both, Folded x, Folded y, int q, int size) {
        int[] quire = new int[size];
        for (int p = 1; p <= size; p++) {
            int inX = x.there(q, p);
            int inY = y.there(q, p);
            quire[p - 1] = both.row.things.size();
            if (inX == 2 || inY == 2) {
                both.row.things.add(Oracle.thing(1));
            } else if (inX == 4 || inY == 4) {
                both.row.things.add(Oracle.thing(2));
                both.row.things.add(Oracle.thing(4));
            } else if (inX == 3 || inY == 3) {
                both.row.things.add(Oracle.thing(2));
            } else {
                quire[p - 1] = Oracle.GHOST;
            }
            Folded from = inX >= 2 ? x : inY >= 2 ? y : null;
            if (from != null) {
                int i = from.at(q, p);
                addLoose(both, from, from.cancelled(i) ? i + 2 : i + 1);
            }
        }
        return quire;
    }

    private static void addLoose(Folded both, Folded from, int i) {
        for (int k = i; k < from.row.things.size() && !from.row.hangs(k); k++) {
            both.row.things.add(Oracle.thing(from.row.kind(k)));
        }
    }
}
