/** Term 4 and promises 25 to 28: each sentence that names an edge, and all that stays. */
public final class CopyEdgesTest {
    private static final int NONE = QuireDesk.NONE;
    private static final int LOW = Integer.MIN_VALUE;
    private static final int HIGH = Integer.MAX_VALUE;
    private static final int[] NO_COPIES = {LOW, -2, -1, 4, 5, HIGH};

    public static void main(String[] args) {
        copyRefused();
        copyOfAll();
        copyStays();
        againstRefused();
        againstCounts();
        againstQuires();
        differsRefused();
        differsOfAll();
        differsInOrder();
        idealRefused();
        idealLetters();
        idealSizes();
        idealThirty();
        idealPlaces();
        idealOthers();
        idealAheadOfAll();
        idealLonger();
        idealOfItself();
        Check.end();
    }

    /** Copies 0 and 1 of two texts, THE FOLDING is "Q2(-1)", something on the TAPE and OUT. */
    private static Run two(String a, String b) {
        return new Run().read(a).then(d -> Check.is("read " + a, d.fault(0), 0))
                .then(d -> Check.is("copy", d.copy(0), true))
                .read(b).then(d -> Check.is("read " + b, d.fault(0), 0))
                .then(d -> Check.is("copy", d.copy(1), true)).then(d -> d.write())
                .read("Q2(-1)").tape("A2");
    }

    /** "false, and nothing is done, without one, or for another k than 0 .. 3". */
    private static void copyRefused() {
        Run none = new Run().things(0, "L").tape("A2");
        for (int k = -1; k <= 4; k++) {
            int as = k;
            none.denies("copy of none as " + k, d -> d.copy(as));
        }
        for (int k : NO_COPIES) {
            two("A2", "A4").denies("copy as " + k, d -> d.copy(k));
        }
    }

    /** "THE FOLDING can be kept as 0 .. 3", each apart from the others. */
    private static void copyOfAll() {
        String[] texts = {"A2", "A2(-1)", "A4(s1)", "A2(c2) B2"};
        Run run = new Run();
        for (int k = 0; k < 4; k++) {
            int as = k;
            run = run.read(texts[k]).then(d -> Check.is("copy", d.copy(as), true));
            for (int other = k + 1; other < 4; other++) {
                int later = other;
                run.refuses("not kept yet", d -> d.against(later, later));
                run.refuses("not kept yet", d -> d.against(as, later));
            }
        }
        for (int k = 0; k < 4; k++) {
            int as = k;
            Check.is("kept", Check.formula(run.then(d -> d.ideal(as, as)).desk()), texts[k]);
        }
        run = run.read("A8").then(d -> d.copy(2));
        texts[2] = "A8";
        for (int k = 0; k < 4; k++) {
            int as = k;
            Check.is("kept anew", Check.formula(run.then(d -> d.ideal(as, as)).desk()), texts[k]);
        }
    }

    /** What is kept stays, whatever becomes of THE FOLDING and its ROW. */
    private static void copyStays() {
        Run run = new Run().things(0, "SCL").then(d -> d.rule(0, 2, 1)).then(d -> d.fewest(0))
                .then(d -> d.copy(1)).then(d -> d.gone(0, 1)).then(d -> d.fewest(0));
        Check.is("the row's", Check.formula(run.desk()), "A2(s1)");
        Check.is("the kept one", Check.formula(run.then(d -> d.ideal(1, 1)).desk()), "A2(c1)");
        Run same = two("A2", "A4");
        String folding = same.seen().get(6);
        Check.is("the folding stays", same.then(d -> d.copy(3)).seen().get(6), folding);
        Check.is("it is kept", same.then(d -> d.copy(3)).desk().against(3, 3), 0);
    }

    /** "NONE if one is not kept." */
    private static void againstRefused() {
        Run run = two("A2", "A4");
        for (int k : new int[] {LOW, -1, 2, 3, 4, HIGH}) {
            run.refuses("against " + k, d -> d.against(k, 0));
            run.refuses("against " + k, d -> d.against(0, k));
            run.refuses("against " + k + " itself", d -> d.against(k, k));
        }
        run.keeps("both are kept", d -> d.against(0, 1), 2);
        run.keeps("itself", d -> d.against(1, 1), 0);
    }

    private static void against(String a, String b, int due) {
        Check.is(a + " against " + b, two(a, b).desk().against(0, 1), due);
        Check.is(b + " against " + a, two(b, a).desk().against(0, 1), due);
    }

    /** "by what is there: 1 a GHOST, 2 a LEAF, 3 a STUB without, 4 a STUB with a CANCEL". */
    private static void againstCounts() {
        String[] there = {"A2(-1)", "A2", "A2(s1)", "A2(c1)"};
        for (int a = 0; a < 4; a++) {
            for (int b = 0; b < 4; b++) {
                against(there[a], there[b], a == b ? 0 : 1);
                Check.is("in a", two(there[a], there[b]).desk().differs(0, 1, 0, 2),
                        a == b ? NONE : a + 1);
                Check.is("in b", two(there[a], there[b]).desk().differs(0, 1, 0, 3),
                        a == b ? NONE : b + 1);
            }
        }
        against("A2(s1,g1,k1)", "A2(s1)", 0);
        against("A2(s1,g1,k1)", "A2(c1)", 1);
        against("A2(c1,k1)", "A2(c1)", 0);
        against("A2(g0,k0,p0,g1,k1,p2)", "A2", 0);
        against("A2", "ZZ2", 0);
        against("A-C2", "B-D2", 0);
        against("A4(-2,s3)", "A4(s2,-3)", 2);
    }

    /** "(also where just one has such a one)": 0 no such PLACE. */
    private static void againstQuires() {
        for (int size = 2; size <= 8; size += 2) {
            for (int other = 2; other <= 8; other += 2) {
                against("A" + size, "A" + other, Math.abs(size - other));
            }
            against("A2", "A2 B" + size, size);
            against("A" + size, "A" + size + " B-H2", 14);
        }
        against("A8(-1,-2,-3,-4)", "A8(-5,-6,-7,-8)", 8);
        against("A2(-1) B2 C2", "A2 B2", 3);
        Run most = two("A2", "A2 B8(-5,-6,-7,-8) C8(-5,-6,-7,-8) D8(-5,-6,-7,-8) E8(-5,-6,-7,-8)"
                + " F8(-5,-6,-7,-8) G8(-5,-6,-7,-8) H8(-5,-6,-7,-8)");
        Check.is("seven quires more", most.desk().against(0, 1), 56);
        Check.is("the last of them", most.desk().differs(0, 1, 55, 0), 7);
        Check.is("its place", most.desk().differs(0, 1, 55, 1), 8);
        Check.is("nothing in a", most.desk().differs(0, 1, 55, 2), 0);
        Check.is("a ghost in b", most.desk().differs(0, 1, 55, 3), 1);
        Check.is("none behind", most.desk().differs(0, 1, 56, 0), NONE);
    }

    /** "NONE if there is none such, or another what." */
    private static void differsRefused() {
        Run run = two("A2(-1,s2)", "A4");
        run.keeps("how many", d -> d.against(0, 1), 4);
        for (int what = 0; what < 4; what++) {
            int asked = what;
            for (int i : new int[] {LOW, -2, -1, 4, 5, 64, HIGH}) {
                run.refuses("differs " + i, d -> d.differs(0, 1, i, asked));
            }
            for (int k : new int[] {LOW, -1, 2, 3, 4, HIGH}) {
                run.refuses("differs of " + k, d -> d.differs(k, 0, 0, asked));
                run.refuses("differs of " + k, d -> d.differs(0, k, 0, asked));
            }
            run.refuses("differs from itself", d -> d.differs(1, 1, 0, asked));
        }
        for (int what : new int[] {LOW, -2, -1, 4, 5, HIGH}) {
            for (int i = 0; i < 4; i++) {
                int at = i;
                run.refuses("differs what " + what, d -> d.differs(0, 1, at, what));
            }
        }
    }

    /** Each pair of what can be there, and no such PLACE on either side. */
    private static void differsOfAll() {
        int[][] due = {{0, 1, 1, 2}, {0, 2, 2, 1}, {0, 3, 3, 4}, {0, 4, 4, 3}, {1, 1, 2, 3},
            {1, 3, 0, 4}, {1, 4, 0, 2}, {2, 1, 3, 0}, {2, 2, 1, 0}};
        Run run = two("A4(-1,s3,c4) B2 C2(s1,-2)", "A4(-2,c3,s4) B4(s1,c3)");
        run.keeps("how many", d -> d.against(0, 1), due.length);
        for (int i = 0; i < due.length; i++) {
            int at = i;
            for (int what = 0; what < 4; what++) {
                int asked = what;
                run.keeps("differs " + i, d -> d.differs(0, 1, at, asked), due[i][what]);
                int turned = what < 2 ? what : 5 - what;
                Check.is("turned", run.desk().differs(1, 0, i, what), due[i][turned]);
            }
        }
    }

    /** "The i-th of these, by QUIRES, then PLACES". */
    private static void differsInOrder() {
        Run run = two("A-H2", "A2(-1) B2(-2) C2(-1) D2(-2) E2(-1) F2(-2) G2(-1) H2(-2)");
        for (int i = 0; i < 8; i++) {
            Check.is("quire of " + i, run.desk().differs(0, 1, i, 0), i);
            Check.is("place of " + i, run.desk().differs(0, 1, i, 1), 1 + i % 2);
        }
        run.refuses("no ninth", d -> d.differs(0, 1, 8, 0));
    }

    /** "NONE, and it stays: one is not kept". */
    private static void idealRefused() {
        Run run = two("A2", "A2(-1)");
        for (int k : new int[] {LOW, -1, 2, 3, 4, HIGH}) {
            run.refuses("ideal of " + k, d -> d.ideal(k, 0));
            run.refuses("ideal of " + k, d -> d.ideal(0, k));
            run.refuses("ideal of " + k, d -> d.ideal(k, k));
        }
        Run none = new Run().read("A2(s1)");
        none.refuses("ideal, none is kept", d -> d.ideal(0, 0));
        new Run().refuses("ideal of nothing", d -> d.ideal(0, 1));
    }

    private static void unlike(String a, String b) {
        two(a, b).refuses("ideal of " + a + " and " + b, d -> d.ideal(0, 1));
        two(a, b).refuses("ideal of " + b + " and " + a, d -> d.ideal(1, 0));
    }

    private static void ideal(String a, String b, String due, int things) {
        Run run = two(a, b).then(d -> Check.is(a + " with " + b, d.ideal(0, 1), things));
        Check.is(a + " with " + b, Check.formula(run.desk()), due);
        Check.is("things", run.desk().folding(1), things);
        Check.is("what is kept stays", Check.formula(run.then(d -> d.ideal(0, 0)).desk()), a);
        Check.is("what is kept stays", Check.formula(run.then(d -> d.ideal(1, 1)).desk()), b);
        Check.is("out stays", run.seen().get(8), "out " + b);
        Check.is("the tape stays", run.tapeLength(), 2);
    }

    /** "LETTERS alike". */
    private static void idealLetters() {
        unlike("A2", "B2");
        unlike("A2 B2", "B2");
        unlike("ZZ2", "Z2");
        unlike("AA2", "A2");
        ideal("B2(-1)", "B2(-2)", "B2", 2);
        ideal("ZZ2(-1)", "ZZ2(-2)", "ZZ2", 2);
    }

    /** "if they have QUIRES of like sizes as far as both have some". */
    private static void idealSizes() {
        unlike("A2", "A4");
        unlike("A2 B2", "A2 B4");
        unlike("A2", "A4 B2");
        unlike("A8 B2 C6", "A8 B2 C8");
        unlike("A-G2 H2(s1)", "A-G2 H4(s1)");
        ideal("A2", "A2 B4", "A2 B4", 6);
        ideal("A8 B2", "A8", "A8 B2", 10);
    }

    /** "or there would be more than 30 THINGS". */
    private static void idealThirty() {
        ideal("A-C8 D6(-1)", "A-C8 D6(-2)", "A-C8 D6", 30);
        ideal("A-C8 D8(-1,-2)", "A-C8 D8(-1,-2)", "A-C8 D8(-1,-2)", 30);
        unlike("A-C8 D8(-1,-2)", "A-C8 D8(-1,-3)");
        ideal("A-C8 D4(p1,p4)", "A-C8 D4", "A-C8 D4(p1,p4)", 30);
        unlike("A-C8 D6(-1,p2)", "A-C8 D6(p1,-2)");
        two("A8(p0) B-C8 D6(-1)", "A-C8 D6(-2)").refuses("31", d -> d.ideal(0, 1));
        two("A8(p0) B-C8 D6(-1)", "A-C8 D6(-2)")
                .then(d -> Check.is("30 the other way", d.ideal(1, 0), 30));
        unlike("A-C8 D8(-1,-2)", "A-C8 D8(-1,-2,-3,-4) E2");
        ideal("A-C8 D4(-1,-2)", "A-C8 D4(-1,-2,c4)", "A-C8 D4(-1,-2)", 26);
        unlike("A-C8 D8(-1,-2,-3,c4)", "A-C8 D8(-1,-2,s3,-4)");
    }

    /** "a LEAF, if one of both has it there, else a STUB with a CANCEL, else a STUB, else". */
    private static void idealPlaces() {
        String[] best = {"A4(-1)", "A4(s1)", "A4(c1)", "A4"};
        int[] things = {3, 4, 5, 4};
        for (int a = 0; a < 4; a++) {
            for (int b = 0; b < 4; b++) {
                int due = Math.max(a, b);
                ideal(best[a], best[b], best[due], things[due]);
            }
        }
        ideal("A2(-2) B2(-1)", "A2(-1) B2(-2)", "A2 B2", 4);
    }

    /** "with what does not HANG behind it (but such a CANCEL) in a, or .. in b". */
    private static void idealOthers() {
        ideal("A2(g1)", "A2(k1)", "A2(g1)", 3);
        ideal("A2", "A2(k1)", "A2", 2);
        ideal("A2(s1)", "A2(k1)", "A2", 2);
        ideal("A2(s1,g1)", "A2(k1)", "A2(g1)", 3);
        ideal("A2(-1)", "A2(k1)", "A2(k1)", 3);
        ideal("A2(-1)", "A2(c1,k1,p1)", "A2(c1,k1,p1)", 5);
        ideal("A2(-1)", "A2(s1,g1,k1)", "A2(s1,g1,k1)", 4);
        ideal("A2(c1,g1)", "A2(p1)", "A2(g1)", 3);
        ideal("A2(c1)", "A2(p1)", "A2", 2);
        ideal("A2(c1,k1)", "A2(-1)", "A2(c1,k1)", 4);
        ideal("A2(s1,g1,k1)", "A2(c1,p1)", "A2(c1,g1,k1)", 5);
        ideal("A2(s1)", "A2(c1,p1)", "A2(c1)", 3);
        ideal("A2(c1,p1,k1)", "A2(s1,g1)", "A2(c1,p1,k1)", 5);
        ideal("A2(g2)", "A2(-2)", "A2(g2)", 3);
        ideal("A2(-2)", "A2(g2)", "A2(g2)", 3);
        ideal("A2(-1)", "A2(-1)", "A2(-1)", 1);
    }

    /** "what stands ahead of all in a": of b never, even where a has no THING at first. */
    private static void idealAheadOfAll() {
        ideal("A2(g0,k0,p0)", "A2(p0)", "A2(g0,k0,p0)", 5);
        ideal("A2", "A2(p0)", "A2", 2);
        ideal("A2(-1)", "A2(p0,g1)", "A2(g1)", 3);
        ideal("A2(p0,-1)", "A2(-1)", "A2(p0,-1)", 2);
    }

    /** "those of the longer one", whichever it is. */
    private static void idealLonger() {
        ideal("A2(-1)", "A2(-2) B4(-1,s2,c3,p4)", "A2 B4(-1,s2,c3,p4)", 7);
        ideal("A2(-2) B4(-1,s2,c3,p4)", "A2(-1)", "A2 B4(-1,s2,c3,p4)", 7);
        ideal("A2(p2)", "A2 B2(g1) C2", "A2(p2) B2(g1) C2", 8);
        ideal("A2", "A-H2", "A-H2", 16);
        ideal("A-H2", "A2", "A-H2", 16);
        Run run = two("A2(-1)", "A2 B4(-1,c2)").then(d -> d.ideal(0, 1));
        int[] due = {2, 6, 1, 6, 1};
        for (int what = 0; what < 5; what++) {
            Check.is("folding " + what, run.desk().folding(what), due[what]);
        }
        int[] cells = {0, 1, -2, 2, 4, 5};
        for (int k = 0; k < 6; k++) {
            int q = k < 2 ? 0 : 1;
            int p = k < 2 ? k + 1 : k - 1;
            Check.is("place " + k, run.desk().place(q, p), cells[k]);
            Check.is("no page", run.desk().where(q, p, 0), 0);
            Check.is("no word", run.desk().where(q, p, 1), 0);
        }
        Check.is("what hangs together", run.desk().thing(2, 2), 4);
        Check.is("a cancel does not hang", run.desk().thing(3, 0), NONE);
    }

    /** Two that are one. */
    private static void idealOfItself() {
        String[] texts = {"A2(g0,-1,k2)", "A-H2", "A8(c1,k1,s2,g2,k2) B2", "ZZ8(-1,-2,-3,-4)"};
        for (String text : texts) {
            Run run = new Run().read(text).then(d -> d.copy(2)).read("A2");
            int things = new Run().tape(text).desk().read();
            Check.is("ideal of itself", run.desk().ideal(2, 2), things);
            Check.is("it is that", Check.formula(run.then(d -> d.ideal(2, 2)).desk()), text);
        }
    }
}
