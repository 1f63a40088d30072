import java.util.ArrayList;
import java.util.HashMap;
import java.util.List;
import java.util.Map;

/**
 * FOLDINGS of long ROWS by the words of the document, QUIRE by QUIRE: all lays of a QUIRE are
 * made and asked, and what was counted behind one is remembered. Oracle, which makes all FOLDINGS
 * whole, says for small ROWS whether this one is right.
 */
final class Counter {
    private static final int NONE = -1;

    private final Oracle o;
    /** How many THINGS of the ROW there are for it: a BEGINNING has the first ones alone. */
    private final int count;
    private final boolean open;
    private final List<Integer> hanging = new ArrayList<>();
    private final Map<Long, Long> ways = new HashMap<>();
    private final Map<Long, Integer> least = new HashMap<>();

    Counter(Oracle o) {
        this(o, o.things.size(), false);
    }

    private Counter(Oracle o, int count, boolean open) {
        this.o = o;
        this.count = count;
        this.open = open;
        for (int i = 0; i < count; i++) {
            if (o.hangs(i)) {
                hanging.add(i);
            }
        }
    }

    long ways() {
        return hanging.isEmpty() ? 0 : ways(0, 0, 0, NONE);
    }

    /** The k-th in THE ORDER, or none. */
    Oracle.Fold pick(long k) {
        return k < 0 || k >= ways() ? null : choose(k, false);
    }

    /** The first in THE ORDER of those with the fewest GHOSTS, or none. */
    Oracle.Fold fewest() {
        return ways() == 0 ? null : choose(0, true);
    }

    int why() {
        if (ways() > 0) {
            return NONE;
        }
        for (int n = 0; n < count; n++) {
            Counter begins = new Counter(o, n + 1, true);
            if (!begins.hanging.isEmpty() && begins.ways() == 0) {
                return n;
            }
        }
        return count;
    }

    private static long key(int q, int next, int ahead, int before) {
        return ((q * 64L + next) * 64 + ahead) * 2 + (before == NONE ? 0 : 1);
    }

    private long ways(int q, int next, int ahead, int before) {
        if (next == hanging.size()) {
            return 1;
        }
        if (q == 8) {
            return 0;
        }
        Long known = ways.get(key(q, next, ahead, before));
        if (known != null) {
            return known;
        }
        long sum = 0;
        int best = 1000;
        for (int[] lay : lays(q, next, ahead, before)) {
            int then = next + thingsIn(lay);
            long n = ways(q + 1, then, ahead + lay.length, lastOf(lay));
            sum += n;
            if (n > 0) {
                int more = least(q + 1, then, ahead + lay.length, lastOf(lay));
                best = Math.min(best, Oracle.ghostsIn(lay) + more);
            }
        }
        ways.put(key(q, next, ahead, before), sum);
        least.put(key(q, next, ahead, before), best);
        return sum;
    }

    private int least(int q, int next, int ahead, int before) {
        return next == hanging.size() ? 0 : least.get(key(q, next, ahead, before));
    }

    private Oracle.Fold choose(long k, boolean fewest) {
        Oracle.Fold f = new Oracle.Fold();
        long left = k;
        int next = 0;
        int ahead = 0;
        int before = NONE;
        for (int q = 0; next < hanging.size(); q++) {
            int due = least(q, next, ahead, before);
            for (int[] lay : lays(q, next, ahead, before)) {
                int then = next + thingsIn(lay);
                long n = ways(q + 1, then, ahead + lay.length, lastOf(lay));
                if (n > 0 && fewest) {
                    int more = least(q + 1, then, ahead + lay.length, lastOf(lay));
                    n = Oracle.ghostsIn(lay) + more == due ? n : 0;
                }
                if (left < n) {
                    f = f.with(lay);
                    next = then;
                    ahead += lay.length;
                    before = lastOf(lay);
                    break;
                }
                left -= n;
            }
        }
        return f;
    }

    private static int thingsIn(int[] lay) {
        int n = 0;
        for (int cell : lay) {
            n += cell >= 0 ? 1 : 0;
        }
        return n;
    }

    private static int lastOf(int[] lay) {
        return Math.max(NONE, lay[lay.length - 1]);
    }

    /** The lays of a QUIRE that agree, in THE ORDER. */
    private List<int[]> lays(int q, int next, int ahead, int before) {
        List<int[]> all = new ArrayList<>();
        for (int size = 2; size <= 8; size += 2) {
            for (int mask = 0; mask < 1 << size; mask++) {
                int[] lay = lay(size, mask, next);
                if ((o.sizes >> (size / 2 - 1) & 1) == 1 && lay != null
                        && agrees(lay, q, ahead, before)) {
                    all.add(lay);
                }
            }
        }
        return all;
    }

    /** A lay with GHOSTS by a mask, the first PLACE the highest bit; none if it can't be. */
    private int[] lay(int size, int mask, int next) {
        int[] lay = new int[size];
        int at = next;
        for (int p = 1; p <= size; p++) {
            boolean ghost = (mask >> (size - p) & 1) == 1;
            if (open && at == hanging.size()) {
                // A PLACE behind the last THING of a BEGINNING is told by one mask alone.
                if (ghost) {
                    return null;
                }
                lay[p - 1] = Oracle.OPEN;
            } else if (ghost) {
                lay[p - 1] = Oracle.GHOST;
            } else if (at < hanging.size()) {
                lay[p - 1] = hanging.get(at);
                at++;
            } else {
                return null;
            }
        }
        return at == next || Oracle.ghostsIn(lay) > 4 ? null : lay;
    }

    private boolean agrees(int[] lay, int q, int ahead, int before) {
        int previous = before;
        for (int p = 1; p <= lay.length; p++) {
            int i = lay[p - 1];
            if (i >= 0 && (!stands(i, q, p, o.page + 2 * (ahead + p - 1))
                    || (previous >= 0 && !runsOn(previous, i))
                    || !hangsWith(i, lay[lay.length - p]))) {
                return false;
            }
            previous = i;
        }
        return true;
    }

    private boolean stands(int i, int q, int p, int page) {
        if (o.mark(i, 0) != 0 && o.mark(i, 0) != o.letter + q) {
            return false;
        }
        if (o.mark(i, 1) != 0 && (o.mark(i, 1) != p || p > o.signed)) {
            return false;
        }
        if (o.page == 0) {
            return true;
        }
        boolean own = o.mark(i, 2) == 0 || o.mark(i, 2) == page;
        return own && (!cancelled(i) || o.mark(i + 1, 2) == 0 || o.mark(i + 1, 2) == page);
    }

    private boolean cancelled(int i) {
        return o.kind(i) == 2 && i + 1 < count && o.kind(i + 1) == 4;
    }

    private boolean runsOn(int i, int next) {
        int word = o.mark(next, 3);
        if (cancelled(next) && o.mark(next + 1, 3) != 0) {
            word = o.mark(next + 1, 3);
        }
        return o.mark(i, 4) == 0 || word == 0 || word == o.mark(i, 4);
    }

    private boolean hangsWith(int i, int other) {
        if (other < 0) {
            return true;
        }
        boolean wet = o.mark(i, 5) != 0 && o.mark(other, 5) != 0;
        boolean sided = o.mark(i, 6) != 0 && o.mark(other, 6) != 0;
        return (!wet || o.mark(i, 5) == o.mark(other, 5))
                && (!sided || o.mark(i, 6) != o.mark(other, 6));
    }
}
