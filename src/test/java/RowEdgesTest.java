/** Term 1 and promises 1 to 8: each sentence that names an edge, and all that stays. */
public final class RowEdgesTest {
    private static final int NONE = QuireDesk.NONE;
    private static final int LOW = Integer.MIN_VALUE;
    private static final int HIGH = Integer.MAX_VALUE;
    private static final int[] NO_ROWS = {LOW, -2, -1, 6, 7, HIGH};
    private static final int[] MARK_TOP = {46, 8, 999, 9999, 9999, 9, 2};
    private static final int[] RULE_LOW = {0, 0, 1, 0, 1, 0};
    private static final int[] RULE_TOP = {0, 0, 15, 8, 39, 999};

    public static void main(String[] args) {
        aNewObject();
        rowsOfPut();
        placesOfPut();
        kindsOfPut();
        thirtyThings();
        goneRefused();
        goneToNone();
        marksAtFirst();
        marksOfAllValues();
        markRefused();
        markTornOff();
        tornTo();
        tearRefused();
        lookRefused();
        aboutRefused();
        hanging();
        rulesOfAllValues();
        ruleRefused();
        rowsApart();
        theLastCall();
        Check.end();
    }

    /** A row of two THINGS, one TORN, a FOLDING, something kept, OUT and a TAPE. */
    private static Run busy() {
        return new Run().things(0, "LS").things(5, "LC")
                .then(d -> d.mark(0, 0, 4, 77))
                .then(d -> d.mark(0, 1, 2, 3))
                .then(d -> d.mark(0, 1, 0, 1))
                .then(d -> d.tear(0, 1, 3))
                .then(d -> d.rule(0, 5, 1))
                .then(d -> d.rule(0, 2, 3))
                .then(d -> d.rule(5, 4, 39))
                .read("C4(-1,p2)")
                .then(d -> d.copy(2))
                .then(d -> d.write())
                .then(d -> d.fewest(0))
                .read("A2(")
                .tape("A4(c2,k3)");
    }

    /** Promise 1: empty ROWS with RULES as at first, no FOLDING, none kept, an empty TAPE. */
    private static void aNewObject() {
        Run none = new Run();
        int[] first = {0, 0, 15, 8, 1, 0};
        for (int row = 0; row < 6; row++) {
            for (int what = 0; what < 6; what++) {
                Check.is("about of row " + row, none.desk().about(row, what), first[what]);
            }
            int at = row;
            none.refuses("look at first", d -> d.look(at, 0, NONE));
            none.keeps("ways at first", d -> d.ways(at), 0);
            none.denies("pick at first", d -> d.pick(at, 0));
            none.refuses("fewest at first", d -> d.fewest(at));
            none.keeps("why at first", d -> d.why(at), 0);
        }
        for (int k = 0; k < 4; k++) {
            int a = k;
            none.denies("copy at first", d -> d.copy(a));
            for (int other = 0; other < 4; other++) {
                int b = other;
                none.refuses("against at first", d -> d.against(a, b));
                none.refuses("ideal at first", d -> d.ideal(a, b));
            }
        }
        Check.is("the tape at first", none.tapeLength(), 0);
        none.keeps("take at first", d -> d.take(), 0);
        none.refuses("out at first", d -> d.out(0));
        none.refuses("write at first", d -> d.write());
    }

    /** "NONE, and nothing is done: no such ROW". */
    private static void rowsOfPut() {
        for (int row : NO_ROWS) {
            busy().refuses("put into row " + row, d -> d.put(row, 0, 1));
        }
        QuireDesk d = new QuireDesk();
        for (int row = 0; row < 6; row++) {
            Check.is("put into row " + row, d.put(row, 0, 1), 1);
            Check.is("it is there", d.look(row, 0, NONE), 1);
            Check.is("it counts", d.about(row, 0), 1);
        }
    }

    /** "ahead of THING at (0 .. how many there are)", "no such place". */
    private static void placesOfPut() {
        for (int at : new int[] {LOW, -1, 3, 4, 30, HIGH}) {
            busy().refuses("put at " + at, d -> d.put(0, at, 1));
        }
        for (int at : new int[] {-1, 1, 2}) {
            busy().refuses("put into an empty row at " + at, d -> d.put(1, at, 1));
        }
        int[][] due = {{5, 1, 2}, {1, 5, 2}, {1, 2, 5}};
        for (int at = 0; at <= 2; at++) {
            QuireDesk d = new QuireDesk();
            Check.things(d, 0, "LS");
            d.mark(0, 0, 3, 10);
            d.mark(0, 1, 3, 20);
            d.tear(0, 0, 6);
            d.tear(0, 1, 5);
            Check.is("put at " + at, d.put(0, at, 5), 3);
            for (int i = 0; i < 3; i++) {
                Check.is("kind " + i, d.look(0, i, NONE), due[at][i]);
                int word = due[at][i] == 5 ? 0 : 10 * due[at][i];
                Check.is("the word of it", d.look(0, i, 3), word);
                int whole = due[at][i] == 5 ? 7 : 7 - due[at][i];
                Check.is("how whole it is", d.tear(0, i, 7), whole);
            }
        }
    }

    /** KINDS 1 .. 5: "another KIND" is refused. */
    private static void kindsOfPut() {
        for (int kind : new int[] {LOW, -1, 0, 6, 7, HIGH}) {
            busy().refuses("put a kind " + kind, d -> d.put(0, 0, kind));
        }
        for (int kind = 1; kind <= 5; kind++) {
            QuireDesk d = new QuireDesk();
            Check.is("put a kind " + kind, d.put(0, 0, kind), 1);
            Check.is("kind", d.look(0, 0, NONE), kind);
        }
    }

    /** ROWS "have 0 to 30 THINGS each": "or 30 are there". */
    private static void thirtyThings() {
        Run thirty = new Run();
        for (int n = 1; n <= 30; n++) {
            int due = n;
            thirty = thirty.then(d -> Check.is("put of " + due, d.put(3, due / 2, 1 + due % 5), due));
        }
        for (int at : new int[] {0, 1, 15, 29, 30, 31}) {
            thirty.refuses("the 31st at " + at, d -> d.put(3, at, 1));
        }
        Check.is("thirty", thirty.desk().about(3, 0), 30);
        Check.is("other rows have room", thirty.desk().put(2, 0, 1), 1);
        QuireDesk d = thirty.desk();
        Check.is("one goes", d.gone(3, 29), 29);
        Check.is("one comes", d.put(3, 29, 2), 30);
        Check.is("no more", d.put(3, 29, 2), NONE);
    }

    /** "NONE, and nothing is done: none such." */
    private static void goneRefused() {
        for (int i : new int[] {LOW, -1, 2, 3, 30, HIGH}) {
            busy().refuses("gone " + i, d -> d.gone(0, i));
        }
        for (int row : NO_ROWS) {
            busy().refuses("gone of row " + row, d -> d.gone(row, 0));
        }
        busy().refuses("gone of an empty row", d -> d.gone(1, 0));
        busy().refuses("gone of an empty row, -1", d -> d.gone(1, -1));
    }

    /** How many are left, down to none; what is behind comes up with all that it has. */
    private static void goneToNone() {
        for (int i = 0; i < 3; i++) {
            QuireDesk d = new QuireDesk();
            Check.things(d, 2, "LST");
            for (int k = 0; k < 3; k++) {
                d.mark(2, k, 4, k + 1);
                d.tear(2, k, 5 + k % 2);
            }
            Check.is("gone " + i, d.gone(2, i), 2);
            for (int k = 0; k < 2; k++) {
                int was = k < i ? k : k + 1;
                Check.is("kind", d.look(2, k, NONE), was == 2 ? 5 : was + 1);
                Check.is("word", d.look(2, k, 4), was + 1);
                Check.is("torn", d.tear(2, k, 7), 5 + was % 2);
            }
            Check.is("none behind", d.look(2, 2, NONE), NONE);
            Check.is("gone", d.gone(2, 1), 1);
            Check.is("gone", d.gone(2, 0), 0);
            Check.is("gone of none", d.gone(2, 0), NONE);
            Check.is("put again", d.put(2, 0, 1), 1);
            Check.is("it is new", d.look(2, 0, 4), 0);
            Check.is("it is whole", d.tear(2, 0, 7), 7);
        }
    }

    /** "MARKS of a THING, 0 (not known) at first". */
    private static void marksAtFirst() {
        QuireDesk d = new QuireDesk();
        Check.things(d, 0, "LSPCT");
        for (int i = 0; i < 5; i++) {
            for (int what = 0; what < 7; what++) {
                Check.is("mark at first", d.look(0, i, what), 0);
            }
            Check.is("it is whole", d.tear(0, i, 7), 7);
        }
    }

    /** The values of each MARK at its edges, on a THING of each KIND; one MARK alone changes. */
    private static void marksOfAllValues() {
        for (int kind = 0; kind < 5; kind++) {
            for (int what = 0; what < 7; what++) {
                QuireDesk d = new QuireDesk();
                Check.things(d, 0, "LSPCT");
                int[] good = {1, MARK_TOP[what], 0, MARK_TOP[what] - 1};
                for (int v : good) {
                    Check.is("mark " + what + " is " + v, d.mark(0, kind, what, v), true);
                    Check.is("look " + what, d.look(0, kind, what), v);
                }
                for (int other = 0; other < 7; other++) {
                    if (other != what) {
                        Check.is("other marks", d.look(0, kind, other), 0);
                    }
                }
                Check.is("other things", d.look(0, (kind + 1) % 5, what), 0);
            }
        }
    }

    /** "False, and nothing is done: none such, another MARK or value". */
    private static void markRefused() {
        for (int row : NO_ROWS) {
            busy().denies("mark in row " + row, d -> d.mark(row, 0, 0, 1));
        }
        for (int i : new int[] {LOW, -1, 2, 30, HIGH}) {
            busy().denies("mark of thing " + i, d -> d.mark(0, i, 0, 1));
        }
        busy().denies("mark in an empty row", d -> d.mark(1, 0, 0, 1));
        for (int what : new int[] {LOW, -2, -1, 7, 8, HIGH}) {
            busy().denies("mark " + what, d -> d.mark(0, 0, what, 1));
            busy().denies("mark " + what + " to 0", d -> d.mark(0, 0, what, 0));
        }
        for (int what = 0; what < 7; what++) {
            int mark = what;
            for (int v : new int[] {LOW, -1, MARK_TOP[what] + 1, MARK_TOP[what] + 2, HIGH}) {
                busy().denies("mark " + what + " to " + v, d -> d.mark(0, 0, mark, v));
            }
        }
    }

    /** "or it is TORN off": at n MARKS the n-th can't be told, and not be taken back. */
    private static void markTornOff() {
        for (int n = 0; n <= 7; n++) {
            int whole = n;
            Run torn = new Run().things(4, "LL").then(d -> d.tear(4, 1, whole));
            for (int what = 0; what < 7; what++) {
                int mark = what;
                if (what < n) {
                    QuireDesk d = torn.desk();
                    Check.is("can be told", d.mark(4, 1, what, 1), true);
                    Check.is("is told", d.look(4, 1, what), 1);
                } else {
                    torn.denies("mark " + what + " of " + n, d -> d.mark(4, 1, mark, 1));
                    torn.denies("unmark " + what + " of " + n, d -> d.mark(4, 1, mark, 0));
                }
                Check.is("the other is whole", torn.desk().mark(4, 0, what, 1), true);
            }
        }
    }

    /** "never more than before; 7 at first"; "(if it had them)"; "others are not known". */
    private static void tornTo() {
        for (int first = 0; first <= 9; first++) {
            for (int second = 0; second <= 9; second++) {
                QuireDesk d = new QuireDesk();
                Check.things(d, 0, "L");
                for (int what = 0; what < 7; what += 2) {
                    d.mark(0, 0, what, 2);
                }
                int due = Math.min(first, 7);
                Check.is("tear to " + first, d.tear(0, 0, first), due);
                due = Math.min(due, second);
                Check.is("then to " + second, d.tear(0, 0, second), due);
                for (int what = 0; what < 7; what++) {
                    int mark = what % 2 == 0 && what < due ? 2 : 0;
                    Check.is("mark " + what + " of " + due, d.look(0, 0, what), mark);
                }
            }
        }
        QuireDesk d = new QuireDesk();
        Check.things(d, 0, "L");
        Check.is("tear far", d.tear(0, 0, HIGH), 7);
    }

    /** "NONE, and nothing is done: none such; n is below 0." */
    private static void tearRefused() {
        for (int n : new int[] {LOW, -2, -1}) {
            busy().refuses("tear to " + n, d -> d.tear(0, 0, n));
            busy().refuses("tear a torn one to " + n, d -> d.tear(0, 1, n));
        }
        for (int i : new int[] {LOW, -1, 2, 30, HIGH}) {
            busy().refuses("tear thing " + i, d -> d.tear(0, i, 0));
        }
        for (int row : NO_ROWS) {
            busy().refuses("tear in row " + row, d -> d.tear(row, 0, 0));
        }
        busy().refuses("tear in an empty row", d -> d.tear(1, 0, 0));
        for (int n = 3; n <= 8; n++) {
            int to = n;
            busy().keeps("tear to no less", d -> d.tear(0, 1, to), 3);
        }
    }

    /** "NONE if there is none such, or another what." */
    private static void lookRefused() {
        for (int what : new int[] {LOW, -3, -2, 7, 8, HIGH}) {
            busy().refuses("look " + what, d -> d.look(0, 0, what));
        }
        for (int i : new int[] {LOW, -1, 2, 30, HIGH}) {
            busy().refuses("look at thing " + i, d -> d.look(0, i, NONE));
            busy().refuses("look at thing " + i, d -> d.look(0, i, 0));
        }
        for (int row : NO_ROWS) {
            busy().refuses("look in row " + row, d -> d.look(row, 0, NONE));
        }
        busy().keeps("look at the kind", d -> d.look(0, 1, NONE), 2);
        busy().keeps("look at mark 0", d -> d.look(0, 1, 0), 1);
        busy().keeps("look at mark 6", d -> d.look(0, 1, 6), 0);
        busy().keeps("look at a mark that is torn off", d -> d.look(0, 1, 3), 0);
    }

    /** "NONE for another what, or no such ROW." */
    private static void aboutRefused() {
        for (int what : new int[] {LOW, -2, -1, 6, 7, HIGH}) {
            busy().refuses("about " + what, d -> d.about(0, what));
        }
        for (int row : NO_ROWS) {
            for (int what = -1; what <= 6; what++) {
                int asked = what;
                busy().refuses("about row " + row, d -> d.about(row, asked));
            }
        }
        int[] due = {2, 2, 3, 8, 1, 1};
        for (int what = 0; what < 6; what++) {
            int asked = what;
            busy().keeps("about " + what, d -> d.about(0, asked), due[what]);
        }
    }

    /** "LEAVES and STUBS HANG, others don't." */
    private static void hanging() {
        for (int kind = 1; kind <= 5; kind++) {
            QuireDesk d = new QuireDesk();
            for (int n = 1; n <= 30; n++) {
                d.put(0, 0, kind);
                Check.is("things", d.about(0, 0), n);
                Check.is("those that hang", d.about(0, 1), kind <= 2 ? n : 0);
            }
            d.gone(0, 5);
            Check.is("one less", d.about(0, 1), kind <= 2 ? 29 : 0);
        }
    }

    /** The values of each RULE at its edges; one RULE alone changes. */
    private static void rulesOfAllValues() {
        int[] first = {0, 0, 15, 8, 1, 0};
        for (int what = 2; what <= 5; what++) {
            QuireDesk d = new QuireDesk();
            int[] good = {RULE_LOW[what], RULE_LOW[what] + 1, RULE_TOP[what] - 1, RULE_TOP[what]};
            for (int v : good) {
                Check.is("rule " + what + " is " + v, d.rule(5, what, v), true);
                Check.is("about " + what, d.about(5, what), v);
            }
            for (int other = 0; other <= 5; other++) {
                if (other != what) {
                    Check.is("other rules", d.about(5, other), first[other]);
                }
                Check.is("other rows", d.about(4, other), first[other]);
            }
        }
    }

    /** "False, and nothing is done: no such ROW, another what, or a value that can't be". */
    private static void ruleRefused() {
        for (int row : NO_ROWS) {
            busy().denies("rule of row " + row, d -> d.rule(row, 2, 1));
        }
        for (int what : new int[] {LOW, -1, 0, 1, 6, 7, HIGH}) {
            busy().denies("rule " + what + " to 1", d -> d.rule(0, what, 1));
            busy().denies("rule " + what + " to 0", d -> d.rule(0, what, 0));
        }
        for (int what = 2; what <= 5; what++) {
            int rule = what;
            for (int v : new int[] {LOW, RULE_LOW[what] - 1, RULE_TOP[what] + 1, 1024, HIGH}) {
                busy().denies("rule " + what + " to " + v, d -> d.rule(0, rule, v));
            }
        }
    }

    /** What is done in one ROW is not done in another. */
    private static void rowsApart() {
        for (int row = 0; row < 6; row++) {
            QuireDesk d = new QuireDesk();
            for (int other = 0; other < 6; other++) {
                Check.things(d, other, "LL");
            }
            d.mark(row, 1, 2, 9);
            d.tear(row, 0, 2);
            d.rule(row, 2, 1);
            d.put(row, 2, 5);
            for (int other = 0; other < 6; other++) {
                Check.is("things", d.about(other, 0), other == row ? 3 : 2);
                Check.is("page", d.look(other, 1, 2), other == row ? 9 : 0);
                Check.is("torn", d.tear(other, 0, 7), other == row ? 2 : 7);
                Check.is("sizes", d.about(other, 2), other == row ? 1 : 15);
                Check.is("ways", d.ways(other), other == row ? 5 : 58);
            }
        }
    }

    /** An object is used for 512 calls: the last of them is answered as the first one is. */
    private static void theLastCall() {
        QuireDesk d = new QuireDesk();
        for (int call = 1; call <= 510; call += 2) {
            int n = (call - 1) / 2 % 30;
            Check.is("put as call " + call, d.put(0, n, 1), n + 1);
            if (n < 29) {
                Check.is("mark as call " + (call + 1), d.mark(0, n, 1, 0), true);
            } else {
                emptied(d, call);
                return;
            }
        }
    }

    private static void emptied(QuireDesk d, int call) {
        int n = 30;
        for (int at = call + 1; at <= 509; at++) {
            boolean goes = (at - call - 1) / 29 % 2 == 0;
            n += goes ? -1 : 1;
            long got = goes ? d.gone(0, n) : d.put(0, n - 1, 1);
            Check.is("as call " + at, got, n);
        }
        Check.is("as call 510", d.about(0, 0), n);
        Check.is("as call 511", d.fewest(0) >= 0, true);
        Check.is("as call 512", d.folding(1), n);
    }
}
