import java.util.Random;

/** All promises: runs of 512 calls, each answered as the plain model does. */
public final class AgainstModelTest {
    private static final int CALLS = 512;
    private static final int[] ODD = {Integer.MIN_VALUE, -2, -1, 6, 7, 8, 9, 30, 31, 400,
        1 << 16, Integer.MAX_VALUE};

    private final QuireDesk d = new QuireDesk();
    private final Model m = new Model();
    private final Random r;
    private final String name;
    /** Many FORMULAS of a run are of one book, so that they can be laid side by side. */
    private final int letter;
    private final int[] sizes = new int[8];
    private int calls = 0;

    private AgainstModelTest(int seed) {
        r = new Random(seed);
        name = "run " + seed + ", call ";
        letter = 1 + r.nextInt(39);
        for (int q = 0; q < 8; q++) {
            sizes[q] = 2 * r.nextInt(1 + r.nextInt(4)) + 2;
        }
    }

    public static void main(String[] args) {
        for (int seed = 0; seed < 600; seed++) {
            new AgainstModelTest(seed).run();
        }
        Check.end();
    }

    /** Some runs are about ROWS, some about FORMULAS, and some about all. */
    private void run() {
        int about = r.nextInt(3);
        while (calls < CALLS) {
            int sort = r.nextInt(12);
            if (sort < (about == 0 ? 6 : about == 1 ? 1 : 3)) {
                changeRow();
            } else if (sort < 7) {
                reckon();
            } else if (sort < 8) {
                askFolding();
            } else if (sort < (about == 1 ? 9 : 11)) {
                formulas();
            } else {
                copies();
            }
        }
    }

    private void is(String call, long got, long due) {
        calls++;
        if (calls <= CALLS) {
            Check.is(name + calls + ": " + call, got, due);
        }
    }

    private void is(String call, boolean got, boolean due) {
        is(call, got ? 1 : 0, due ? 1 : 0);
    }

    /** A number from 0 on, and sometimes an odd one. */
    private int upTo(int top) {
        return r.nextInt(16) == 0 ? ODD[r.nextInt(ODD.length)] : r.nextInt(top + 1);
    }

    private int row() {
        return r.nextInt(8) == 0 ? upTo(5) : r.nextInt(2);
    }

    private void changeRow() {
        int row = row();
        int things = Math.max(0, m.about(row, 0));
        int i = upTo(Math.max(0, things - 1));
        switch (r.nextInt(10)) {
            case 0: case 1: case 2: {
                int at = upTo(things);
                int kind = r.nextInt(2) == 0 ? 1 : r.nextInt(8) == 0 ? upTo(5) : 1 + r.nextInt(5);
                is("put", d.put(row, at, kind), m.put(row, at, kind));
                break;
            }
            case 3:
                is("gone", d.gone(row, i), m.gone(row, i));
                break;
            case 4: case 5: case 6: {
                int what = upTo(6);
                int[] likely = {3, 5, 15, 3, 3, 3, 2, 2};
                int v = r.nextInt(8) == 0 ? upTo(9999) : r.nextInt(likely[what & 7] + 1);
                is("mark", d.mark(row, i, what, v), m.mark(row, i, what, v));
                break;
            }
            case 7: {
                int n = r.nextInt(3) == 0 ? upTo(7) : 5 + r.nextInt(4);
                is("tear", d.tear(row, i, n), m.tear(row, i, n));
                break;
            }
            case 8: {
                int what = r.nextInt(4) == 0 ? upTo(6) : 2 + r.nextInt(4);
                int v = r.nextInt(3) == 0 ? upTo(40) : upTo(what == 2 ? 15 : what == 3 ? 8 : 3);
                is("rule", d.rule(row, what, v), m.rule(row, what, v));
                break;
            }
            default: {
                int what = r.nextInt(9) - 1;
                is("look", d.look(row, i, what), m.look(row, i, what));
                is("about", d.about(row, what), m.about(row, what));
                break;
            }
        }
    }

    private void reckon() {
        int row = row();
        switch (r.nextInt(5)) {
            case 0:
                is("ways", d.ways(row), m.ways(row));
                break;
            case 1: case 2: {
                long ways = Math.max(0, m.ways(row));
                long k = ways == 0 || r.nextInt(6) == 0 ? ways - 1 + r.nextInt(3)
                        : (r.nextLong() >>> 1) % ways;
                is("pick " + k + " of " + ways, d.pick(row, k), m.pick(row, k));
                break;
            }
            case 3:
                is("fewest", d.fewest(row), m.fewest(row));
                break;
            default:
                is("why", d.why(row), m.why(row));
                break;
        }
    }

    private void askFolding() {
        int q = upTo(Math.max(0, m.folding(0) - r.nextInt(2)));
        int p = r.nextInt(8) == 0 ? upTo(9) : 1 + r.nextInt(Math.max(2, m.size(q)));
        int i = upTo(Math.max(0, m.folding(1) - r.nextInt(2)));
        int what = upTo(4);
        int of = r.nextInt(3);
        is("folding", d.folding(what), m.folding(what));
        is("size", d.size(q), m.size(q));
        is("place", d.place(q, p), m.place(q, p));
        is("thing", d.thing(i, what), m.hung(i, what));
        is("thing", d.thing(i, of), m.hung(i, of));
        is("where", d.where(q, p, what), m.where(q, p, what));
        is("where", d.where(q, p, of), m.where(q, p, of));
    }

    private void formulas() {
        switch (r.nextInt(6)) {
            case 0:
                is("write", d.write(), m.write());
                break;
            case 1: case 2: {
                int i = upTo(60);
                is("out", d.out(i), m.out(i));
                is("write", d.write(), m.write());
                int n = m.write();
                int at = n <= 0 ? 0 : r.nextInt(n);
                is("out", d.out(at), m.out(at));
                break;
            }
            case 3:
                is("take", d.take(), m.take());
                break;
            case 4:
                feedText();
                break;
            default:
                is("read", d.read(), m.read());
                is("fault", d.fault(0), m.fault(0));
                is("fault", d.fault(1), m.fault(1));
                break;
        }
    }

    /** A text, sometimes with a slip, behind what is on the TAPE; mostly it is read then. */
    private void feedText() {
        if (r.nextInt(4) > 0) {
            is("end", d.end(0), m.end(0));
        }
        String text = r.nextInt(3) == 0 ? FaultEdgesTest.formula(r) : ofTheBook();
        if (r.nextInt(3) == 0) {
            text = FaultEdgesTest.slip(text, r);
        }
        int length = m.onTape() + text.length();
        for (int i = 0; i < text.length(); i += 20) {
            int[] five = new int[5];
            for (int k = 0; k < 20; k++) {
                int sign = i + k < text.length() ? text.charAt(i + k) : 0;
                five[k / 4] = five[k / 4] << 8 | sign;
            }
            is("feed", d.feed(five[0], five[1], five[2], five[3], five[4]), m.feed(five));
        }
        is("end", d.end(length), m.end(length));
        if (r.nextInt(4) > 0) {
            is("read " + text, d.read(), m.read());
            is("fault", d.fault(0), m.fault(0));
            is("fault", d.fault(1), m.fault(1));
        }
    }

    private String ofTheBook() {
        StringBuilder s = new StringBuilder();
        int quires = 1 + r.nextInt(8);
        int places = 0;
        for (int q = 0; q < quires && places < 24; q++) {
            s.append(q == 0 ? "" : " ").append(Oracle.letters(letter + q)).append(sizes[q]);
            s.append(r.nextBoolean() ? "" : FaultEdgesTest.items(r, sizes[q], q == 0));
            places += sizes[q];
        }
        return s.toString();
    }

    private void copies() {
        int a = r.nextInt(8) == 0 ? upTo(3) : r.nextInt(2);
        int b = r.nextInt(8) == 0 ? upTo(3) : r.nextInt(2);
        switch (r.nextInt(5)) {
            case 0: case 1:
                is("copy", d.copy(a), m.copy(a));
                break;
            case 2:
                is("against", d.against(a, b), m.against(a, b));
                break;
            case 3: {
                int i = upTo(Math.max(0, m.against(a, b) - r.nextInt(2)));
                int what = upTo(4);
                is("differs", d.differs(a, b, i, what), m.differs(a, b, i, what));
                break;
            }
            default:
                is("ideal", d.ideal(a, b), m.ideal(a, b));
                is("write", d.write(), m.write());
                break;
        }
    }
}
