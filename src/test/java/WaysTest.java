import java.math.BigInteger;
import java.util.Random;

/** Promises 9 to 12: ways, pick, fewest, why, at their edges and for long ROWS. */
public final class WaysTest {
    private static final int NONE = QuireDesk.NONE;

    public static void main(String[] args) {
        wrongArguments();
        unmarked();
        eightQuires();
        farthestPage();
        onlyLoose();
        longRows();
        changesCount();
        whyOfCancels();
        whyAtTheEnd();
        foldingStays();
        Check.end();
    }

    private static void wrongArguments() {
        QuireDesk d = new QuireDesk();
        Check.things(d, 0, "LL");
        for (int row : new int[] {-1, 6, Integer.MIN_VALUE, Integer.MAX_VALUE}) {
            Check.is("ways", d.ways(row), NONE);
            Check.is("pick", d.pick(row, 0), false);
            Check.is("fewest", d.fewest(row), NONE);
            Check.is("why", d.why(row), NONE);
        }
        Check.is("pick below 0", d.pick(0, -1), false);
        Check.is("pick low", d.pick(0, Long.MIN_VALUE), false);
        Check.is("pick high", d.pick(0, Long.MAX_VALUE), false);
        Check.is("no folding", d.folding(0), 0);
    }

    /** How many ways there are without MARKS is told by powers of a polynomial. */
    private static void unmarked() {
        for (int sizes = 1; sizes <= 15; sizes++) {
            QuireDesk d = new QuireDesk();
            d.rule(0, 2, sizes);
            BigInteger[] due = unmarkedWays(sizes);
            for (int n = 1; n <= 30; n++) {
                d.put(0, 0, 1 + n % 2);
                Check.is("ways of " + n + " by " + sizes, d.ways(0), due[n].longValueExact());
                Check.is("why of " + n, d.why(0) == NONE, due[n].signum() > 0);
            }
        }
    }

    private static BigInteger[] unmarkedWays(int sizes) {
        long[] lays = new long[9];
        for (int size = 2; size <= 8; size += 2) {
            for (int mask = 0; mask < 1 << size; mask++) {
                int ghosts = Integer.bitCount(mask);
                if ((sizes >> (size / 2 - 1) & 1) == 1 && ghosts <= 4 && ghosts < size) {
                    lays[size - ghosts]++;
                }
            }
        }
        BigInteger[] sum = new BigInteger[31];
        BigInteger[] power = new BigInteger[31];
        for (int n = 0; n <= 30; n++) {
            sum[n] = BigInteger.ZERO;
            power[n] = n == 0 ? BigInteger.ONE : BigInteger.ZERO;
        }
        for (int q = 0; q < 8; q++) {
            BigInteger[] next = new BigInteger[31];
            for (int n = 0; n <= 30; n++) {
                next[n] = BigInteger.ZERO;
                for (int k = 1; k <= 8 && k <= n; k++) {
                    next[n] = next[n].add(power[n - k].multiply(BigInteger.valueOf(lays[k])));
                }
                sum[n] = sum[n].add(next[n]);
            }
            power = next;
        }
        return sum;
    }

    private static void eightQuires() {
        QuireDesk d = new QuireDesk();
        d.rule(0, 2, 1);
        Check.things(d, 0, "LLLLLLLLLLLLLLLL");
        Check.is("16 in eight pairs", d.ways(0), 1);
        Check.is("fewest", d.fewest(0), 0);
        Check.is("formula", Check.formula(d), "A-H2");
        Check.things(d, 0, "T");
        Check.is("a plate does not hang", d.ways(0), 1);
        Check.things(d, 0, "LL");
        Check.is("17 can't be", d.ways(0), 0);
        Check.is("why", d.why(0), 17);
        Check.is("fewest of none", d.fewest(0), NONE);
        d.gone(0, 18);
        d.gone(0, 17);
        d.gone(0, 0);
        Check.is("15 with a ghost anywhere", d.ways(0), 16);
        Check.is("fewest 15", d.fewest(0), 1);
        Check.is("first of 16", Check.formula(d), "A-G2 H2(p1,-2)");
        d.rule(0, 4, 39);
        d.pick(0, 15);
        Check.is("last of 16", Check.formula(d), "QQ2(-1) RR-YY2 ZZ2(p2)");
    }

    /** Seven QUIRES of 8 with 4 GHOSTS each, and a pair behind 56 PLACES. */
    private static void farthestPage() {
        QuireDesk d = new QuireDesk();
        Check.things(d, 0, "LLLLLLLLLLLLLLLLLLLLLLLLLLLLLL");
        d.rule(0, 2, 9);
        d.rule(0, 5, 1);
        d.mark(0, 28, 1, 1);
        d.mark(0, 28, 2, 113);
        Check.is("ways of it", d.ways(0), 70L * 70 * 70 * 70 * 70 * 70 * 70);
        Check.is("fewest of it", d.fewest(0), 28);
        Check.is("page of the last", d.where(7, 2, 0), 115);
        d.mark(0, 28, 2, 115);
        Check.is("farther can't be", d.ways(0), 0);
        Check.is("why", d.why(0), 28);
    }

    private static void onlyLoose() {
        QuireDesk d = new QuireDesk();
        Check.things(d, 0, "PCT");
        Check.is("ways of loose ones", d.ways(0), 0);
        Check.is("why of loose ones", d.why(0), 3);
        Check.is("fewest of loose ones", d.fewest(0), NONE);
        Check.is("pick of loose ones", d.pick(0, 0), false);
        d.rule(0, 5, 1);
        d.mark(0, 1, 2, 2);
        Check.is("a cancel of no stub may say what it likes", d.why(0), 3);
    }

    /** Long ROWS with many MARKS: each pick agrees, and they go up in THE ORDER. */
    private static void longRows() {
        Random r = new Random(7);
        for (int n = 0; n < 60; n++) {
            Oracle o = longRow(r);
            QuireDesk d = deskOf(o);
            long ways = d.ways(0);
            Check.is("there is a way", ways > 0, true);
            Check.is("pick behind the last", d.pick(0, ways), false);
            Oracle.Fold before = null;
            int least = 1000;
            for (int k = 0; k < 40; k++) {
                long at = ways <= 40 ? k : (ways / 40) * k + (k == 39 ? ways % 40 : 0);
                if (at >= ways) {
                    break;
                }
                d = deskOf(o);
                Check.is("pick", d.pick(0, at), true);
                Oracle.Fold f = Oracle.of(d);
                Check.is("pick agrees", o.agrees(f, o.things.size()), true);
                Check.is("in order", before == null || Oracle.order(before, f) < 0, true);
                Check.is("formula", Check.formula(d), o.formula(f));
                least = Math.min(least, f.ghosts());
                before = f;
            }
            d = deskOf(o);
            d.pick(0, ways - 1);
            Oracle.Fold end = Oracle.of(d);
            Check.is("the last is behind", Oracle.order(before, end) <= 0, true);
            d = deskOf(o);
            int few = d.fewest(0);
            Oracle.Fold f = Oracle.of(d);
            Check.is("fewest is few", few <= least, true);
            Check.is("fewest is told", few, f.ghosts());
            Check.is("fewest agrees", o.agrees(f, o.things.size()), true);
            Check.is("why", d.why(0), NONE);
        }
    }

    /** An object is promised for 512 calls: a new one for each FOLDING that is looked at. */
    private static QuireDesk deskOf(Oracle o) {
        QuireDesk d = new QuireDesk();
        o.into(d, 0);
        return d;
    }

    /** A book of eight QUIRES with leaves lost and some of its true MARKS. */
    private static Oracle longRow(Random r) {
        Oracle o = new Oracle();
        o.page = r.nextBoolean() ? 1 + r.nextInt(900) : 0;
        o.letter = 1 + r.nextInt(39);
        int often = 1 + r.nextInt(30);
        int at = 0;
        for (int q = 0; q < 8 && o.things.size() < 24; q++) {
            int size = 2 * r.nextInt(4) + 2;
            int lost = 0;
            for (int p = 1; p <= size; p++) {
                boolean gone = lost < 4 && lost < size - 1 && r.nextInt(3) == 0;
                lost += gone ? 1 : 0;
                if (!gone && o.things.size() < 28) {
                    int[] t = Oracle.thing(r.nextInt(5) == 0 ? 2 : 1);
                    int pair = Math.min(p, size + 1 - p);
                    int page = o.page == 0 ? 7 : o.page + 2 * at;
                    int[] truth = {o.letter + q, p, page > 999 ? 0 : page, 50 + at, 51 + at,
                        1 + (3 * q + pair) % 9, p == pair ? 1 : 2};
                    for (int m = 0; m < 7; m++) {
                        t[1 + m] = r.nextInt(often) == 0 ? truth[m] : 0;
                    }
                    o.things.add(t);
                    if (r.nextInt(8) == 0) {
                        o.things.add(Oracle.thing(3 + r.nextInt(3)));
                    }
                }
                at++;
            }
        }
        return o;
    }

    /** Each call that changes a ROW counts at once; a call on another ROW does not. */
    private static void changesCount() {
        QuireDesk d = new QuireDesk();
        d.rule(0, 2, 1);
        d.rule(1, 2, 1);
        d.put(0, 0, 1);
        Check.is("one leaf", d.ways(0), 2);
        d.put(0, 0, 1);
        Check.is("two leaves", d.ways(0), 5);
        d.mark(0, 0, 1, 1);
        Check.is("first is first", d.ways(0), 3);
        d.put(1, 0, 1);
        Check.is("other row", d.ways(1), 2);
        Check.is("first row again", d.ways(0), 3);
        d.tear(0, 0, 1);
        Check.is("torn", d.ways(0), 5);
        d.mark(0, 1, 0, 2);
        Check.is("second in B", d.ways(0), 4);
        d.rule(0, 4, 2);
        Check.is("B is the first", d.ways(0), 1);
        d.gone(0, 1);
        Check.is("one is left", d.ways(0), 2);
    }

    private static void whyOfCancels() {
        QuireDesk d = new QuireDesk();
        Check.things(d, 0, "LSC");
        d.rule(0, 5, 1);
        d.mark(0, 0, 2, 1);
        d.mark(0, 2, 2, 3);
        Check.is("cancel's page", d.ways(0) > 0, true);
        d.mark(0, 2, 2, 4);
        Check.is("an even page can't be", d.ways(0), 0);
        Check.is("known at the cancel", d.why(0), 2);
        d.mark(0, 1, 2, 2);
        Check.is("known at the stub", d.why(0), 1);
        d.mark(0, 1, 2, 5);
        d.mark(0, 2, 2, 3);
        Check.is("unlike pages", d.why(0), 2);
        d.rule(0, 5, 0);
        Check.is("pages are not numbered", d.why(0), NONE);
        d.rule(0, 5, 1);
        d.put(0, 2, 3);
        Check.is("not right behind", d.why(0), NONE);
    }

    private static void whyAtTheEnd() {
        QuireDesk d = new QuireDesk();
        d.rule(0, 2, 8);
        Check.things(d, 0, "LLL");
        Check.is("3 of 8 are too few", d.ways(0), 0);
        Check.is("but they can begin", d.why(0), 3);
        Check.things(d, 0, "T");
        Check.is("and with a plate", d.why(0), 4);
        Check.things(d, 0, "L");
        Check.is("4 are enough", d.why(0), NONE);
        d.mark(0, 0, 6, 1);
        d.mark(0, 4, 6, 1);
        d.mark(0, 0, 1, 1);
        d.mark(0, 4, 1, 8);
        Check.is("sides alike", d.why(0), 4);
        d.mark(0, 4, 6, 2);
        Check.is("sides unlike", d.why(0), NONE);
        d.mark(0, 0, 5, 1);
        d.mark(0, 4, 5, 2);
        Check.is("water unlike", d.why(0), 4);
        d.mark(0, 0, 1, 0);
        d.mark(0, 0, 1, 6);
        Check.is("five ghosts ahead", d.why(0), 0);
    }

    private static void foldingStays() {
        QuireDesk d = new QuireDesk();
        Check.things(d, 0, "LTS");
        d.rule(0, 2, 1);
        d.rule(0, 4, 5);
        d.rule(0, 5, 11);
        d.mark(0, 0, 4, 77);
        d.fewest(0);
        Check.is("formula", Check.formula(d), "E2(p1,s2)");
        d.gone(0, 1);
        d.mark(0, 0, 4, 78);
        d.rule(0, 4, 6);
        d.rule(0, 5, 13);
        Check.is("pick none", d.pick(0, 100), false);
        Check.is("fewest none", d.fewest(1), NONE);
        Check.is("as it was then", Check.formula(d), "E2(p1,s2)");
        Check.is("things then", d.folding(1), 3);
        Check.is("letter then", d.folding(4), 5);
        Check.is("page then", d.where(0, 2, 0), 13);
        Check.is("word then", d.where(0, 2, 1), 77);
    }
}
