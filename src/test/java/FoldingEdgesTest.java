/** Promises 13 to 17: each sentence that names an edge of THE FOLDING. */
public final class FoldingEdgesTest {
    private static final int NONE = QuireDesk.NONE;
    private static final int GHOST = -2;
    private static final int LOW = Integer.MIN_VALUE;
    private static final int HIGH = Integer.MAX_VALUE;

    public static void main(String[] args) {
        without();
        anotherWhat();
        foldingCounts();
        foldingOfLargest();
        sizesAtTheEdges();
        placesAtTheEdges();
        placesOfEachSize();
        thingsAtTheEdges();
        thingsThatHang();
        pagesOfPlaces();
        pagesAtTheirEdges();
        wordsOfPlaces();
        wordsAcrossQuires();
        wordsThatAreNotKnown();
        wordsOfStubs();
        unknownWhenRead();
        Check.end();
    }

    /** A FOLDING of two QUIRES: D4(p0,-2,c3,g4) E2(-1). */
    private static Run two() {
        return new Run().things(1, "TLSCLPL").then(d -> d.rule(1, 2, 3)).then(d -> d.rule(1, 4, 4))
                .then(d -> d.rule(1, 5, 21))
                .then(d -> d.mark(1, 1, 1, 1)).then(d -> d.mark(1, 2, 1, 3))
                .then(d -> d.mark(1, 4, 1, 4)).then(d -> d.mark(1, 6, 2, 31))
                .then(d -> d.mark(1, 1, 4, 11)).then(d -> d.mark(1, 2, 4, 12))
                .then(d -> d.mark(1, 3, 4, 13)).then(d -> d.mark(1, 4, 4, 14))
                .then(d -> d.mark(1, 6, 4, 16))
                .then(d -> d.fewest(1));
    }

    /** "0 without one", "NONE if there is none such", "NONE if there is no such PLACE". */
    private static void without() {
        Run none = new Run().things(0, "LL");
        for (int what = 0; what < 5; what++) {
            int asked = what;
            none.keeps("folding " + what, d -> d.folding(asked), 0);
        }
        for (int what : new int[] {LOW, -1, 5, HIGH}) {
            none.refuses("folding " + what, d -> d.folding(what));
        }
        for (int n : new int[] {-1, 0, 1, 2}) {
            none.refuses("size", d -> d.size(n));
            none.refuses("place", d -> d.place(0, n));
            none.refuses("place", d -> d.place(n, 1));
            none.refuses("thing", d -> d.thing(n, 0));
            none.refuses("thing", d -> d.thing(0, n));
            none.refuses("where", d -> d.where(0, n, 0));
            none.refuses("where", d -> d.where(n, 1, 1));
        }
        Run fault = none.read("A2(-1,-2)");
        for (int what = 0; what < 5; what++) {
            int asked = what;
            fault.keeps("folding behind a fault", d -> d.folding(asked), 0);
        }
        fault.refuses("size behind a fault", d -> d.size(0));
        fault.refuses("place behind a fault", d -> d.place(0, 1));
        fault.refuses("thing behind a fault", d -> d.thing(0, 0));
    }

    /** "NONE for another what", "or another what". */
    private static void anotherWhat() {
        Check.is("formula", Check.formula(two().desk()), "D4(p0,-2,c3,g4) E2(-1)");
        for (int what : new int[] {LOW, -2, -1, 5, 6, HIGH}) {
            two().refuses("folding " + what, d -> d.folding(what));
        }
        for (int what : new int[] {LOW, -2, -1, 3, 4, HIGH}) {
            two().refuses("thing, what " + what, d -> d.thing(1, what));
        }
        for (int what : new int[] {LOW, -2, -1, 2, 3, HIGH}) {
            two().refuses("where, what " + what, d -> d.where(0, 1, what));
        }
    }

    private static void foldingCounts() {
        int[] due = {2, 7, 2, 6, 4};
        for (int what = 0; what < 5; what++) {
            int asked = what;
            two().keeps("folding " + what, d -> d.folding(asked), due[what]);
        }
    }

    /** The most of all: 8 QUIRES, 30 THINGS, 32 GHOSTS, 62 PLACES; and the last LETTERS. */
    private static void foldingOfLargest() {
        StringBuilder kinds = new StringBuilder();
        for (int i = 0; i < 30; i++) {
            kinds.append(i % 2 == 0 ? "L" : "S");
        }
        Run run = new Run().things(5, kinds.toString()).then(d -> d.rule(5, 4, 39));
        long ways = run.desk().ways(5);
        Run last = run.then(d -> d.pick(5, ways - 1));
        int[] due = {8, 30, 32, 62, 39};
        for (int what = 0; what < 5; what++) {
            Check.is("folding " + what, last.desk().folding(what), due[what]);
        }
        Check.is("the last thing", last.desk().place(7, 6), 29);
        Check.is("its quire", last.desk().thing(29, 0), 7);
        Check.is("its place", last.desk().thing(29, 1), 6);
        Check.is("what hangs with it", last.desk().thing(29, 2), GHOST);
        Check.is("no 31st", last.desk().thing(30, 0), NONE);
        Check.is("no ninth", last.desk().size(8), NONE);
        int[] least = {1, 1, 1, 2, 46};
        Run small = new Run().read("ZZ2(-1)");
        for (int what = 0; what < 5; what++) {
            Check.is("of the least: " + what, small.desk().folding(what), least[what]);
        }
    }

    /** "The size of QUIRE q; NONE if there is none such." */
    private static void sizesAtTheEdges() {
        two().keeps("size of the first", d -> d.size(0), 4);
        two().keeps("size of the last", d -> d.size(1), 2);
        for (int q : new int[] {LOW, -1, 2, 3, 8, HIGH}) {
            two().refuses("size of " + q, d -> d.size(q));
        }
        Run eight = new Run().read("A2 B4(-1) C6(-1,-2) D8(-1,-2,-3,-4) E8(-1,-2,-3,-4)"
                + " F6(-1,-2,-3) G4(-4) H2(s1)");
        int[] due = {2, 4, 6, 8, 8, 6, 4, 2};
        for (int q = 0; q < 8; q++) {
            Check.is("size of " + q, eight.desk().size(q), due[q]);
        }
        eight.refuses("size of a ninth", d -> d.size(8));
    }

    /** "its THING; -2 a GHOST; NONE if there is no such PLACE." */
    private static void placesAtTheEdges() {
        int[][] due = {{NONE, 1, GHOST, 2, 4, NONE, NONE}, {NONE, GHOST, 6, NONE, NONE}};
        for (int q = 0; q < 2; q++) {
            for (int p = 0; p < due[q].length; p++) {
                int quire = q;
                int place = p;
                two().keeps("place " + q + " " + p, d -> d.place(quire, place), due[q][p]);
            }
        }
        for (int q : new int[] {LOW, -1, 2, 3, 8, HIGH}) {
            two().refuses("place of quire " + q, d -> d.place(q, 1));
        }
        for (int p : new int[] {LOW, -2, -1, 0, 5, 8, 9, HIGH}) {
            two().refuses("place " + p, d -> d.place(0, p));
        }
    }

    private static void placesOfEachSize() {
        for (int size = 2; size <= 8; size += 2) {
            Run run = new Run().read("A" + size + " B" + size);
            for (int q = 0; q < 2; q++) {
                for (int p = 1; p <= size; p++) {
                    int i = q * size + p - 1;
                    Check.is("place", run.desk().place(q, p), i);
                    Check.is("its quire", run.desk().thing(i, 0), q);
                    Check.is("its place", run.desk().thing(i, 1), p);
                    Check.is("the other", run.desk().thing(i, 2), q * size + size - p);
                }
                Check.is("place 0", run.desk().place(q, 0), NONE);
                Check.is("above the size", run.desk().place(q, size + 1), NONE);
                Check.is("where above the size", run.desk().where(q, size + 1, 0), NONE);
            }
            Check.is("behind the last", run.desk().thing(2 * size, 0), NONE);
        }
    }

    /** "NONE if there is none such". */
    private static void thingsAtTheEdges() {
        for (int i : new int[] {LOW, GHOST, -1, 7, 8, 30, HIGH}) {
            for (int what = 0; what < 3; what++) {
                int asked = what;
                two().refuses("thing " + i, d -> d.thing(i, asked));
            }
        }
        Run more = two().things(1, "LLL");
        more.refuses("a thing that came later", d -> d.thing(7, 0));
        Run less = two().then(d -> d.gone(1, 6));
        less.keeps("a thing that went later", d -> d.thing(6, 0), 1);
    }

    /** "NONE if it does not HANG"; "2 the THING that HANGS with it (-2 a GHOST)". */
    private static void thingsThatHang() {
        int[][] due = {{NONE, NONE, NONE}, {0, 1, 4}, {0, 3, GHOST}, {NONE, NONE, NONE},
            {0, 4, 1}, {NONE, NONE, NONE}, {1, 2, GHOST}};
        for (int i = 0; i < 7; i++) {
            for (int what = 0; what < 3; what++) {
                int thing = i;
                int asked = what;
                two().keeps("thing " + i + " " + what, d -> d.thing(thing, asked), due[i][what]);
            }
        }
    }

    /** "what 0 its PAGE", of what is there and of what is lost. */
    private static void pagesOfPlaces() {
        for (int k = 0; k < 6; k++) {
            int q = k / 4;
            int p = k % 4 + 1;
            two().keeps("page of " + k, d -> d.where(q, p, 0), 21 + 2 * k);
        }
        for (int what = 0; what < 2; what++) {
            int asked = what;
            for (int p : new int[] {LOW, -1, 0, 5, 8, HIGH}) {
                two().refuses("where, place " + p, d -> d.where(0, p, asked));
            }
            for (int p : new int[] {0, 3, 4}) {
                two().refuses("where, place " + p, d -> d.where(1, p, asked));
            }
            for (int q : new int[] {LOW, -1, 2, 8, HIGH}) {
                two().refuses("where, quire " + q, d -> d.where(q, 1, asked));
            }
        }
    }

    /** "(0 if they are not numbered)"; the first PAGE may be 1 or 999. */
    private static void pagesAtTheirEdges() {
        for (int page : new int[] {0, 1, 2, 998, 999}) {
            Run run = new Run().things(0, "LLL").then(d -> d.rule(0, 2, 1))
                    .then(d -> d.rule(0, 5, page)).then(d -> d.fewest(0));
            for (int k = 0; k < 4; k++) {
                int due = page == 0 ? 0 : page + 2 * k;
                Check.is("page of " + k, run.desk().where(k / 2, k % 2 + 1, 0), due);
            }
        }
    }

    /** "by the CATCH of the THING in the PLACE ahead of it (0 .. a GHOST)". */
    private static void wordsOfPlaces() {
        int[] due = {0, 11, 0, 12, 14, 0};
        for (int k = 0; k < 6; k++) {
            int q = k / 4;
            int p = k % 4 + 1;
            two().keeps("word of " + k, d -> d.where(q, p, 1), due[k]);
        }
    }

    /** The PLACE ahead of the first one is the last of the QUIRE ahead. */
    private static void wordsAcrossQuires() {
        Run run = new Run().things(0, "LLLLLL").then(d -> d.rule(0, 2, 1));
        for (int i = 0; i < 6; i++) {
            int thing = i;
            run = run.then(d -> d.mark(0, thing, 4, 9990 + thing));
        }
        run = run.then(d -> d.fewest(0));
        for (int k = 0; k < 6; k++) {
            Check.is("word of " + k, run.desk().where(k / 2, k % 2 + 1, 1), k == 0 ? 0 : 9989 + k);
        }
        Run lost = new Run().things(0, "LL").then(d -> d.rule(0, 2, 1))
                .then(d -> d.mark(0, 0, 4, 5)).then(d -> d.pick(0, 1));
        Check.is("formula", Check.formula(lost.desk()), "A2(-2) B2(-2)");
        int[] due = {0, 5, 0, 0};
        for (int k = 0; k < 4; k++) {
            Check.is("word of " + k, lost.desk().where(k / 2, k % 2 + 1, 1), due[k]);
        }
        lost = lost.then(d -> d.pick(0, 4));
        Check.is("formula", Check.formula(lost.desk()), "A2(-1) B2(-1)");
        int[] last = {0, 0, 5, 0};
        for (int k = 0; k < 4; k++) {
            Check.is("word of " + k, lost.desk().where(k / 2, k % 2 + 1, 1), last[k]);
        }
    }

    /** "(0 if that is not known": never told, taken back, or TORN off. */
    private static void wordsThatAreNotKnown() {
        Run run = new Run().things(0, "LL").then(d -> d.rule(0, 2, 1));
        Check.is("never told", run.then(d -> d.fewest(0)).desk().where(0, 2, 1), 0);
        Run told = run.then(d -> d.mark(0, 0, 4, 9999));
        Check.is("told", told.then(d -> d.fewest(0)).desk().where(0, 2, 1), 9999);
        Run back = told.then(d -> d.mark(0, 0, 4, 0));
        Check.is("taken back", back.then(d -> d.fewest(0)).desk().where(0, 2, 1), 0);
        Run torn = told.then(d -> d.tear(0, 0, 4));
        Check.is("torn off", torn.then(d -> d.fewest(0)).desk().where(0, 2, 1), 0);
        Run less = told.then(d -> d.tear(0, 0, 5));
        Check.is("not torn off", less.then(d -> d.fewest(0)).desk().where(0, 2, 1), 9999);
        Run head = run.then(d -> d.mark(0, 1, 3, 77));
        Check.is("its own head", head.then(d -> d.fewest(0)).desk().where(0, 2, 1), 0);
    }

    /** The THING in a PLACE is the STUB, and not its CANCEL nor what is pasted behind it. */
    private static void wordsOfStubs() {
        Run run = new Run().things(0, "SCPL").then(d -> d.rule(0, 2, 1))
                .then(d -> d.mark(0, 1, 4, 8)).then(d -> d.mark(0, 2, 4, 9));
        Check.is("of the others", run.then(d -> d.fewest(0)).desk().where(0, 2, 1), 0);
        Run stub = run.then(d -> d.mark(0, 0, 4, 7)).then(d -> d.fewest(0));
        Check.is("of the stub", stub.desk().where(0, 2, 1), 7);
        Check.is("the place has the stub", stub.desk().place(0, 1), 0);
        Check.is("the next has the leaf", stub.desk().place(0, 2), 3);
    }

    /** Of a FORMULA nothing is known: neither PAGES nor words, even behind a FOLDING of a ROW. */
    private static void unknownWhenRead() {
        Run run = two().read("A4(p0,-2,c3) B2(-1)");
        for (int k = 0; k < 6; k++) {
            Check.is("page of " + k, run.desk().where(k / 4, k % 4 + 1, 0), 0);
            Check.is("word of " + k, run.desk().where(k / 4, k % 4 + 1, 1), 0);
        }
        Run ideal = two().then(d -> d.copy(0)).then(d -> d.ideal(0, 0));
        for (int k = 0; k < 6; k++) {
            Check.is("page of " + k, ideal.desk().where(k / 4, k % 4 + 1, 0), 0);
            Check.is("word of " + k, ideal.desk().where(k / 4, k % 4 + 1, 1), 0);
        }
    }
}
