import java.util.ArrayList;
import java.util.List;

/**
 * Foldings by the words of the document, without any shortcut: all are made, each is asked
 * whole whether it agrees, and those that do are sorted. For small ROWS only.
 */
final class Oracle {
    static final int GHOST = -2;
    static final int OPEN = -3;

    final List<int[]> things = new ArrayList<>();
    int sizes = 15;
    int signed = 8;
    int letter = 1;
    int page = 0;

    /** A FOLDING: for each QUIRE its cells, a THING, GHOST or OPEN in each. */
    static final class Fold {
        final List<int[]> quires = new ArrayList<>();

        Fold with(int[] quire) {
            Fold f = new Fold();
            f.quires.addAll(quires);
            f.quires.add(quire);
            return f;
        }

        int ghosts() {
            int n = 0;
            for (int[] quire : quires) {
                n += ghostsIn(quire);
            }
            return n;
        }
    }

    static int ghostsIn(int[] quire) {
        int n = 0;
        for (int cell : quire) {
            n += cell == GHOST ? 1 : 0;
        }
        return n;
    }

    /** A THING: KIND, then its 7 MARKS. */
    static int[] thing(int kind) {
        return new int[] {kind, 0, 0, 0, 0, 0, 0, 0};
    }

    int kind(int i) {
        return things.get(i)[0];
    }

    int mark(int i, int what) {
        return things.get(i)[1 + what];
    }

    boolean hangs(int i) {
        return kind(i) <= 2;
    }

    List<Fold> foldings() {
        List<Fold> found = new ArrayList<>();
        List<Integer> hanging = hangingUpTo(things.size() - 1);
        if (!hanging.isEmpty()) {
            make(new Fold(), hanging, 0, false, things.size(), found);
        }
        found.sort(Oracle::order);
        return found;
    }

    private List<Integer> hangingUpTo(int n) {
        List<Integer> hanging = new ArrayList<>();
        for (int i = 0; i <= n; i++) {
            if (hangs(i)) {
                hanging.add(i);
            }
        }
        return hanging;
    }

    int why() {
        if (!foldings().isEmpty()) {
            return -1;
        }
        for (int n = 0; n < things.size(); n++) {
            List<Integer> hanging = hangingUpTo(n);
            List<Fold> found = new ArrayList<>();
            if (!hanging.isEmpty()) {
                make(new Fold(), hanging, 0, true, n + 1, found);
                if (found.isEmpty()) {
                    return n;
                }
            }
        }
        return things.size();
    }

    private void make(Fold f, List<Integer> hanging, int next, boolean open, int count,
            List<Fold> found) {
        if (next == hanging.size()) {
            if (agrees(f, count)) {
                found.add(f);
            }
            return;
        }
        if (f.quires.size() == 8 || (open && !found.isEmpty())) {
            return;
        }
        for (int k = 0; k < 4; k++) {
            if ((sizes >> k & 1) == 1) {
                cells(f, hanging, next, open, count, found, new int[2 * k + 2], 0);
            }
        }
    }

    private void cells(Fold f, List<Integer> hanging, int next, boolean open, int count,
            List<Fold> found, int[] quire, int at) {
        if (at == quire.length) {
            boolean some = false;
            for (int cell : quire) {
                some |= cell >= 0;
            }
            if (some && ghostsIn(quire) <= 4) {
                make(f.with(quire.clone()), hanging, next, open, count, found);
            }
            return;
        }
        if (next < hanging.size()) {
            quire[at] = hanging.get(next);
            cells(f, hanging, next + 1, open, count, found, quire, at + 1);
        }
        quire[at] = open && next == hanging.size() ? OPEN : GHOST;
        cells(f, hanging, next, open, count, found, quire, at + 1);
        quire[at] = 0;
    }

    /** Whether a FOLDING of the first THINGS of the ROW agrees. */
    boolean agrees(Fold f, int count) {
        int ahead = 0;
        for (int q = 0; q < f.quires.size(); q++) {
            int[] quire = f.quires.get(q);
            for (int p = 1; p <= quire.length; p++) {
                int i = quire[p - 1];
                if (i < 0) {
                    continue;
                }
                int due = page + 2 * (ahead + p - 1);
                boolean good = mark(i, 0) == 0 || mark(i, 0) == letter + q;
                good &= mark(i, 1) == 0 || (mark(i, 1) == p && mark(i, 1) <= signed);
                good &= page == 0 || mark(i, 2) == 0 || mark(i, 2) == due;
                if (kind(i) == 2 && i + 1 < count && kind(i + 1) == 4) {
                    good &= page == 0 || mark(i + 1, 2) == 0 || mark(i + 1, 2) == due;
                }
                int next = -1;
                if (p < quire.length) {
                    next = quire[p];
                } else if (q + 1 < f.quires.size()) {
                    next = f.quires.get(q + 1)[0];
                }
                if (mark(i, 4) != 0 && next >= 0) {
                    int word = mark(next, 3);
                    if (kind(next) == 2 && next + 1 < count && kind(next + 1) == 4
                            && mark(next + 1, 3) != 0) {
                        word = mark(next + 1, 3);
                    }
                    good &= word == 0 || word == mark(i, 4);
                }
                int mate = quire[quire.length - p];
                if (mate >= 0) {
                    good &= mark(i, 5) == 0 || mark(mate, 5) == 0 || mark(i, 5) == mark(mate, 5);
                    good &= mark(i, 6) == 0 || mark(mate, 6) == 0 || mark(i, 6) != mark(mate, 6);
                }
                if (!good) {
                    return false;
                }
            }
            ahead += quire.length;
        }
        return true;
    }

    /** THE ORDER. */
    static int order(Fold a, Fold b) {
        for (int q = 0; q < a.quires.size() && q < b.quires.size(); q++) {
            int[] x = a.quires.get(q);
            int[] y = b.quires.get(q);
            if (x.length != y.length) {
                return x.length - y.length;
            }
            for (int p = 0; p < x.length; p++) {
                if ((x[p] == GHOST) != (y[p] == GHOST)) {
                    return x[p] == GHOST ? 1 : -1;
                }
            }
        }
        return a.quires.size() - b.quires.size();
    }

    /** Puts this ROW into an empty one of a desk. */
    void into(QuireDesk d, int row) {
        for (int i = 0; i < things.size(); i++) {
            d.put(row, i, kind(i));
            for (int m = 0; m < 7; m++) {
                d.mark(row, i, m, mark(i, m));
            }
        }
        d.rule(row, 2, sizes);
        d.rule(row, 3, signed);
        d.rule(row, 4, letter);
        d.rule(row, 5, page);
    }

    /** THE FOLDING of a desk. */
    static Fold of(QuireDesk d) {
        Fold f = new Fold();
        for (int q = 0; q < d.folding(0); q++) {
            int[] quire = new int[d.size(q)];
            for (int p = 1; p <= quire.length; p++) {
                quire[p - 1] = d.place(q, p);
            }
            f.quires.add(quire);
        }
        return f;
    }

    static String letters(int n) {
        String all = "ABCDEFGHIKLMNOPQRSTVXYZ";
        String one = all.substring((n - 1) % 23, (n - 1) % 23 + 1);
        return n > 23 ? one + one : one;
    }

    /** The FORMULA, made of whole texts. */
    String formula(Fold f) {
        List<String> items = new ArrayList<>();
        for (int q = 0; q < f.quires.size(); q++) {
            items.add(items(f, q));
        }
        StringBuilder s = new StringBuilder();
        for (int q = 0; q < f.quires.size();) {
            int size = f.quires.get(q).length;
            int end = q;
            while (end < f.quires.size() && items.get(end).isEmpty()
                    && f.quires.get(end).length == size) {
                end++;
            }
            s.append(s.length() == 0 ? "" : " ").append(letters(letter + q));
            if (end - q >= 3) {
                s.append("-").append(letters(letter + end - 1)).append(size);
                q = end;
            } else {
                s.append(size);
                s.append(items.get(q).isEmpty() ? "" : "(" + items.get(q) + ")");
                q++;
            }
        }
        return s.toString();
    }

    private String items(Fold f, int q) {
        List<String> all = new ArrayList<>();
        if (q == 0) {
            loose(0, 0, all);
        }
        int[] quire = f.quires.get(q);
        for (int p = 1; p <= quire.length; p++) {
            int i = quire[p - 1];
            if (i < 0) {
                all.add("-" + p);
                continue;
            }
            boolean cancelled = kind(i) == 2 && i + 1 < things.size() && kind(i + 1) == 4;
            if (kind(i) == 2) {
                all.add((cancelled ? "c" : "s") + p);
            }
            loose(cancelled ? i + 2 : i + 1, p, all);
        }
        return String.join(",", all);
    }

    private void loose(int from, int p, List<String> all) {
        for (int i = from; i < things.size() && !hangs(i); i++) {
            all.add("gkp".charAt(kind(i) - 3) + "" + p);
        }
    }
}
