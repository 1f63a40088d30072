import java.util.List;
import java.util.Random;

/** Promises 9 to 18 and 23: small ROWS of all sorts against all foldings by the words. */
public final class AgainstOracleTest {
    public static void main(String[] args) {
        Random r = new Random(20261118);
        for (int n = 0; n < 2500; n++) {
            Oracle o = n % 3 == 0 ? loose(r) : fromAFolding(r);
            compare(o, r, "case " + n);
        }
        Check.end();
    }

    /** THINGS with a few MARKS at random: mostly nothing agrees. */
    private static Oracle loose(Random r) {
        Oracle o = new Oracle();
        rules(o, r);
        int hanging = 1 + r.nextInt(4);
        for (int i = 0; i < hanging; i++) {
            others(o, r);
            o.things.add(Oracle.thing(r.nextInt(3) == 0 ? 2 : 1));
            if (o.kind(o.things.size() - 1) == 2 && r.nextBoolean()) {
                o.things.add(Oracle.thing(4));
            }
        }
        others(o, r);
        int[] top = {4, 4, 12, 2, 2, 2, 2};
        for (int[] t : o.things) {
            for (int m = 0; m < 7; m++) {
                t[1 + m] = r.nextInt(4) == 0 ? 1 + r.nextInt(top[m]) : 0;
            }
        }
        return o;
    }

    private static void rules(Oracle o, Random r) {
        o.sizes = 1 + r.nextInt(15);
        o.signed = r.nextInt(3) == 0 ? r.nextInt(9) : 8;
        o.letter = r.nextInt(3) == 0 ? 1 + r.nextInt(39) : 1;
        o.page = r.nextInt(2) == 0 ? 0 : 1 + r.nextInt(4);
    }

    private static void others(Oracle o, Random r) {
        while (r.nextInt(5) == 0) {
            o.things.add(Oracle.thing(3 + r.nextInt(3)));
        }
    }

    /** THINGS of a true folding with some of its true MARKS, and sometimes a false one. */
    private static Oracle fromAFolding(Random r) {
        Oracle o = new Oracle();
        rules(o, r);
        others(o, r);
        int hanging = 0;
        int ahead = 0;
        for (int q = 0; q < 3 && hanging < 5; q++) {
            int size = 2 * r.nextInt(4) + 2;
            if ((o.sizes >> (size / 2 - 1) & 1) == 0) {
                continue;
            }
            for (int p = 1; p <= size; p++) {
                if (hanging < 5 && r.nextInt(2) == 0) {
                    hanging++;
                    addTrue(o, r, q, p, ahead + p - 1, size);
                    others(o, r);
                }
            }
            ahead += size;
        }
        if (hanging == 0) {
            o.things.add(Oracle.thing(1));
        }
        if (r.nextInt(3) == 0) {
            int[] t = o.things.get(r.nextInt(o.things.size()));
            t[1 + r.nextInt(7)] = 1 + r.nextInt(2);
        }
        return o;
    }

    private static void addTrue(Oracle o, Random r, int q, int p, int at, int size) {
        int[] t = Oracle.thing(r.nextInt(3) == 0 ? 2 : 1);
        int word = 100 + at;
        int pair = Math.min(p, size + 1 - p);
        int[] truth = {o.letter + q, p, Math.max(1, o.page) + 2 * at, word, word + 1,
            1 + (q * 4 + pair) % 9, p == pair ? 1 : 2};
        for (int m = 0; m < 7; m++) {
            t[1 + m] = r.nextInt(3) == 0 ? truth[m] : 0;
        }
        o.things.add(t);
        if (t[0] == 2 && r.nextBoolean()) {
            int[] cancel = Oracle.thing(4);
            cancel[1 + 2] = r.nextBoolean() ? truth[2] : 0;
            cancel[1 + 3] = r.nextBoolean() ? word : 0;
            if (r.nextBoolean()) {
                t[1 + 3] = r.nextInt(3);
            }
            o.things.add(cancel);
        }
    }

    private static void compare(Oracle o, Random r, String name) {
        int row = r.nextInt(6);
        QuireDesk d = deskOf(o, row);
        List<Oracle.Fold> due = o.foldings();
        Counter counter = new Counter(o);
        Check.is(name + " counter", counter.ways(), due.size());
        Check.is(name + " counter why", counter.why(), o.why());
        Check.is(name + " ways", d.ways(row), due.size());
        Check.is(name + " pick none", d.pick(row, due.size()), false);
        Check.is(name + " why", d.why(row), o.why());
        int most = Math.min(due.size(), 12);
        for (int k = 0; k < most; k++) {
            int at = k < 4 ? k : k < 6 ? due.size() - 1 - (k - 4) : r.nextInt(due.size());
            d = deskOf(o, row);
            Check.is(name + " pick " + at, d.pick(row, at), true);
            same(o, d, due.get(at), name + " pick " + at);
            Check.is(name + " counter pick", Oracle.order(counter.pick(at), due.get(at)), 0);
        }
        Oracle.Fold fewest = null;
        for (Oracle.Fold f : due) {
            if (fewest == null || f.ghosts() < fewest.ghosts()) {
                fewest = f;
            }
        }
        d = deskOf(o, row);
        Check.is(name + " fewest", d.fewest(row), fewest == null ? -1 : fewest.ghosts());
        if (fewest != null) {
            same(o, d, fewest, name + " fewest");
            Check.is(name + " counter fewest", Oracle.order(counter.fewest(), fewest), 0);
            d = deskOf(o, row);
            d.fewest(row);
            readBack(o, d, fewest, name);
        }
    }

    /** An object is promised for 512 calls: a new one for each FOLDING that is looked at. */
    private static QuireDesk deskOf(Oracle o, int row) {
        QuireDesk d = new QuireDesk();
        o.into(d, row);
        return d;
    }

    private static void same(Oracle o, QuireDesk d, Oracle.Fold f, String name) {
        Check.is(name + " quires", d.folding(0), f.quires.size());
        Check.is(name + " things", d.folding(1), o.things.size());
        Check.is(name + " ghosts", d.folding(2), f.ghosts());
        Check.is(name + " letter", d.folding(4), o.letter);
        int ahead = 0;
        int before = -1;
        for (int q = 0; q < f.quires.size(); q++) {
            int[] quire = f.quires.get(q);
            Check.is(name + " size", d.size(q), quire.length);
            for (int p = 1; p <= quire.length; p++) {
                int i = quire[p - 1];
                Check.is(name + " place", d.place(q, p), i);
                if (i >= 0) {
                    Check.is(name + " thing 0", d.thing(i, 0), q);
                    Check.is(name + " thing 1", d.thing(i, 1), p);
                    Check.is(name + " thing 2", d.thing(i, 2), quire[quire.length - p]);
                }
                int page = o.page == 0 ? 0 : o.page + 2 * (ahead + p - 1);
                Check.is(name + " where 0", d.where(q, p, 0), page);
                Check.is(name + " where 1", d.where(q, p, 1), before < 0 ? 0 : o.mark(before, 4));
                before = i;
            }
            ahead += quire.length;
        }
        Check.is(name + " places", d.folding(3), ahead);
        Check.is(name + " formula", Check.formula(d), o.formula(f));
    }

    private static void readBack(Oracle o, QuireDesk d, Oracle.Fold f, String name) {
        String text = Check.formula(d);
        Check.is(name + " take", d.take(), text.length());
        Check.is(name + " read " + text, d.read(), o.things.size());
        Check.is(name + " formula again", Check.formula(d), text);
        for (int q = 0; q < f.quires.size(); q++) {
            for (int p = 1; p <= f.quires.get(q).length; p++) {
                Check.is(name + " place again", d.place(q, p), f.quires.get(q)[p - 1]);
                Check.is(name + " page again", d.where(q, p, 0), 0);
                Check.is(name + " word again", d.where(q, p, 1), 0);
            }
        }
    }
}
