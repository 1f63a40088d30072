import java.util.Random;

/** Promises 9 to 12: ROWS of up to 30 THINGS against what the Counter finds by the words. */
public final class LongRowsTest {
    public static void main(String[] args) {
        Random r = new Random(30);
        for (int n = 0; n < 700; n++) {
            Oracle o = book(r, 1 + r.nextInt(1 + r.nextInt(24)));
            if (r.nextInt(2) == 0) {
                slip(o, r);
            }
            compare(o, r, "row " + n);
        }
        Check.end();
    }

    /** A book of some QUIRES with leaves lost and some of its true MARKS. */
    private static Oracle book(Random r, int often) {
        Oracle o = new Oracle();
        o.sizes = r.nextInt(3) == 0 ? 1 + r.nextInt(15) : 15;
        o.page = r.nextBoolean() ? 1 + r.nextInt(900) : 0;
        o.letter = 1 + r.nextInt(39);
        o.signed = r.nextInt(4) == 0 ? r.nextInt(9) : 8;
        int most = 1 + r.nextInt(30);
        int at = 0;
        int lostOften = 1 + r.nextInt(5);
        for (int q = 0; q < 8 && o.things.size() < most; q++) {
            int size = 2 * r.nextInt(4) + 2;
            while ((o.sizes >> (size / 2 - 1) & 1) == 0) {
                size = size % 8 + 2;
            }
            int lost = 0;
            for (int p = 1; p <= size; p++) {
                boolean gone = lost < 4 && lost < size - 1 && r.nextInt(lostOften) == 0;
                lost += gone ? 1 : 0;
                if (!gone && o.things.size() < most) {
                    add(o, r, often, new int[] {q, p, size, at});
                }
                at++;
            }
        }
        return o;
    }

    /** A THING of QUIRE, PLACE, size and PLACES ahead, and sometimes others behind it. */
    private static void add(Oracle o, Random r, int often, int[] place) {
        int q = place[0];
        int p = place[1];
        int at = place[3];
        int pair = Math.min(p, place[2] + 1 - p);
        int page = o.page == 0 ? 7 : o.page + 2 * at;
        int[] truth = {o.letter + q, p <= o.signed ? p : 0, page > 999 ? 0 : page, 50 + at, 51 + at,
            1 + (3 * q + pair) % 9, p == pair ? 1 : 2};
        int[] t = Oracle.thing(r.nextInt(5) == 0 ? 2 : 1);
        for (int m = 0; m < 7; m++) {
            t[1 + m] = r.nextInt(often) == 0 ? truth[m] : 0;
        }
        o.things.add(t);
        if (t[0] == 2 && r.nextBoolean() && o.things.size() < 30) {
            int[] cancel = Oracle.thing(4);
            cancel[1 + 2] = r.nextBoolean() ? truth[2] : 0;
            cancel[1 + 3] = r.nextBoolean() ? truth[3] : 0;
            t[1 + 3] = r.nextBoolean() ? 49 : t[1 + 3];
            o.things.add(cancel);
        }
        if (r.nextInt(8) == 0 && o.things.size() < 30) {
            o.things.add(Oracle.thing(3 + r.nextInt(3)));
        }
    }

    /** One MARK that may be false. */
    private static void slip(Oracle o, Random r) {
        int[] t = o.things.get(r.nextInt(o.things.size()));
        int what = r.nextInt(7);
        int[] top = {46, 8, 999, 120, 120, 9, 2};
        int near = t[1 + what] + (r.nextBoolean() ? 1 : 2);
        t[1 + what] = r.nextBoolean() ? 1 + r.nextInt(top[what]) : Math.min(top[what], near);
    }

    private static void compare(Oracle o, Random r, String name) {
        Counter due = new Counter(o);
        QuireDesk d = new QuireDesk();
        int row = r.nextInt(6);
        o.into(d, row);
        long ways = due.ways();
        Check.is(name + " ways", d.ways(row), ways);
        Check.is(name + " why", d.why(row), due.why());
        Check.is(name + " pick none", d.pick(row, ways), false);
        Oracle.Fold few = due.fewest();
        Check.is(name + " fewest", d.fewest(row), few == null ? -1 : few.ghosts());
        if (few != null) {
            same(o, row, due, -1, name);
        }
        for (int k = 0; k < 6 && k < ways; k++) {
            same(o, row, due, k < 2 ? k * (ways - 1) : (r.nextLong() >>> 1) % ways, name);
        }
    }

    /** The k-th FOLDING, or (below 0) the one with the fewest GHOSTS, on a desk of its own. */
    private static void same(Oracle o, int row, Counter due, long k, String name) {
        QuireDesk d = new QuireDesk();
        o.into(d, row);
        if (k < 0) {
            d.fewest(row);
        } else {
            Check.is(name + " pick " + k, d.pick(row, k), true);
        }
        Oracle.Fold f = k < 0 ? due.fewest() : due.pick(k);
        Check.is(name + " formula " + k, Check.formula(d), o.formula(f));
    }
}
