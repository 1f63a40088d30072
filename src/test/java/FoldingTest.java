/** Promises 13 to 17: folding, size, place, thing, where. */
public final class FoldingTest {
    private static final int NONE = QuireDesk.NONE;
    private static final int GHOST = -2;

    public static void main(String[] args) {
        without();
        ofARow();
        Check.end();
    }

    private static void without() {
        QuireDesk d = new QuireDesk();
        Check.things(d, 0, "LL");
        for (int what = 0; what < 5; what++) {
            Check.is("folding", d.folding(what), 0);
        }
        Check.is("folding 5", d.folding(5), NONE);
        Check.is("folding -1", d.folding(-1), NONE);
        Check.is("size", d.size(0), NONE);
        Check.is("place", d.place(0, 1), NONE);
        Check.is("thing", d.thing(0, 0), NONE);
        Check.is("where", d.where(0, 1, 0), NONE);
        Check.is("write", d.write(), NONE);
        Check.is("copy", d.copy(0), false);
    }

    /** Two QUIRES: a leaf, a lost one, a stub with a cancel, a leaf; a leaf, a lost one. */
    private static void ofARow() {
        QuireDesk d = new QuireDesk();
        Check.things(d, 4, "TLSCLL");
        d.rule(4, 2, 3);
        d.rule(4, 4, 3);
        d.rule(4, 5, 100);
        d.mark(4, 1, 1, 1);
        d.mark(4, 1, 4, 50);
        d.mark(4, 2, 1, 3);
        d.mark(4, 2, 4, 60);
        d.mark(4, 3, 4, 61);
        d.mark(4, 4, 0, 3);
        d.mark(4, 4, 4, 70);
        d.mark(4, 5, 0, 4);
        d.mark(4, 5, 1, 1);
        d.mark(4, 5, 2, 108);
        Check.is("fewest", d.fewest(4), 2);
        Check.is("formula", Check.formula(d), "C4(p0,-2,c3) D2(-2)");
        int[] about = {2, 6, 2, 6, 3};
        for (int what = 0; what < 5; what++) {
            Check.is("folding " + what, d.folding(what), about[what]);
        }
        Check.is("folding 5", d.folding(5), NONE);
        Check.is("size 0", d.size(0), 4);
        Check.is("size 1", d.size(1), 2);
        Check.is("size 2", d.size(2), NONE);
        Check.is("size -1", d.size(-1), NONE);
        int[][] cells = {{NONE, 1, GHOST, 2, 4, NONE}, {NONE, 5, GHOST, NONE}};
        for (int q = 0; q < 2; q++) {
            for (int p = 0; p < cells[q].length; p++) {
                Check.is("place " + q + " " + p, d.place(q, p), cells[q][p]);
            }
        }
        Check.is("place of no quire", d.place(2, 1), NONE);
        Check.is("place below", d.place(-1, 1), NONE);
        Check.is("place far", d.place(0, Integer.MAX_VALUE), NONE);
        things(d);
        words(d);
    }

    private static void things(QuireDesk d) {
        int[][] due = {{NONE, NONE, NONE}, {0, 1, 4}, {0, 3, GHOST}, {NONE, NONE, NONE},
            {0, 4, 1}, {1, 1, GHOST}, {NONE, NONE, NONE}};
        for (int i = 0; i < due.length; i++) {
            for (int what = 0; what < 3; what++) {
                Check.is("thing " + i + " " + what, d.thing(i, what), due[i][what]);
            }
            Check.is("thing 3", d.thing(i, 3), NONE);
            Check.is("thing what -1", d.thing(i, -1), NONE);
        }
        Check.is("thing -1", d.thing(-1, 0), NONE);
        Check.is("thing far", d.thing(Integer.MAX_VALUE, 0), NONE);
    }

    private static void words(QuireDesk d) {
        int[][] due = {{100, 0}, {102, 50}, {104, 0}, {106, 60}, {108, 70}, {110, 0}};
        for (int k = 0; k < 6; k++) {
            int q = k < 4 ? 0 : 1;
            int p = k < 4 ? k + 1 : k - 3;
            Check.is("page of " + k, d.where(q, p, 0), due[k][0]);
            Check.is("head of " + k, d.where(q, p, 1), due[k][1]);
            Check.is("where 2", d.where(q, p, 2), NONE);
            Check.is("where -1", d.where(q, p, -1), NONE);
        }
        Check.is("where no place", d.where(1, 3, 0), NONE);
        Check.is("where place 0", d.where(0, 0, 1), NONE);
        Check.is("where no quire", d.where(2, 1, 0), NONE);
        Check.is("where quire -1", d.where(-1, 1, 0), NONE);
    }
}
