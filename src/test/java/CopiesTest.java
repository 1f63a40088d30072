/** Promises 25 to 28: copy, against, differs, ideal. */
public final class CopiesTest {
    private static final int NONE = QuireDesk.NONE;

    public static void main(String[] args) {
        keeping();
        comparing();
        joining();
        joiningFails();
        joiningForgets();
        Check.end();
    }

    private static void keeping() {
        QuireDesk d = new QuireDesk();
        Check.is("copy of none", d.copy(0), false);
        Check.read(d, "A2");
        Check.is("copy 4", d.copy(4), false);
        Check.is("copy -1", d.copy(-1), false);
        Check.is("against none", d.against(0, 0), NONE);
        Check.is("copy 3", d.copy(3), true);
        Check.is("against itself", d.against(3, 3), 0);
        Check.is("against one that is not kept", d.against(3, 0), NONE);
        Check.is("the other way", d.against(0, 3), NONE);
        Check.is("differs of one not kept", d.differs(3, 0, 0, 0), NONE);
        Check.is("ideal of one not kept", d.ideal(3, 0), NONE);
        Check.is("ideal of one not kept", d.ideal(0, 3), NONE);
        for (int k : new int[] {-1, 4, Integer.MAX_VALUE}) {
            Check.is("against", d.against(3, k), NONE);
            Check.is("against", d.against(k, 3), NONE);
            Check.is("differs", d.differs(k, 3, 0, 0), NONE);
            Check.is("ideal", d.ideal(3, k), NONE);
        }
        Check.read(d, "A4");
        Check.is("what is kept stays", d.against(3, 3), 0);
        Check.is("copy 0", d.copy(0), true);
        Check.is("two places more", d.against(3, 0), 2);
        Check.is("kept anew", d.copy(3), true);
        Check.is("alike now", d.against(3, 0), 0);
    }

    private static QuireDesk two(String a, String b) {
        QuireDesk d = new QuireDesk();
        Check.read(d, a);
        d.copy(0);
        Check.read(d, b);
        d.copy(1);
        return d;
    }

    private static void comparing() {
        QuireDesk d = two("A4(-1,s2,c3) B2 C2(g1)", "A4(s1,c2,-3) B4(-3) C2(-1)");
        int[][] due = {{0, 1, 1, 3}, {0, 2, 3, 4}, {0, 3, 4, 1}, {1, 3, 0, 1}, {1, 4, 0, 2},
            {2, 1, 2, 1}};
        Check.is("against", d.against(0, 1), due.length);
        Check.is("against turned", d.against(1, 0), due.length);
        for (int i = 0; i < due.length; i++) {
            for (int what = 0; what < 4; what++) {
                Check.is("differs " + i + " " + what, d.differs(0, 1, i, what), due[i][what]);
            }
            Check.is("differs turned", d.differs(1, 0, i, 2), due[i][3]);
            Check.is("differs what 4", d.differs(0, 1, i, 4), NONE);
            Check.is("differs what -1", d.differs(0, 1, i, -1), NONE);
        }
        Check.is("differs 6", d.differs(0, 1, due.length, 0), NONE);
        Check.is("differs -1", d.differs(0, 1, -1, 0), NONE);
        Check.is("letters are of no weight", two("A2", "B2").against(0, 1), 0);
        Check.is("what does not hang neither", two("A2(g1)", "A2(k0)").against(0, 1), 0);
        Check.is("a quire more", two("A2", "A2 B8(-1)").against(0, 1), 8);
        d = two("A2", "A2 B8(-1)");
        Check.is("none and a ghost", d.differs(0, 1, 0, 2), 0);
        Check.is("none and a ghost", d.differs(0, 1, 0, 3), 1);
        Check.is("its quire", d.differs(0, 1, 7, 0), 1);
        Check.is("its place", d.differs(0, 1, 7, 1), 8);
    }

    private static void ideal(String a, String b, int things, String due) {
        QuireDesk d = two(a, b);
        Check.is("ideal of " + a + " and " + b, d.ideal(0, 1), things);
        Check.is("ideal of " + a + " and " + b, Check.formula(d), due);
        Check.is("things of it", d.folding(1), things == NONE ? d.folding(1) : things);
    }

    private static void joining() {
        ideal("A2(-1)", "A2(-2)", 2, "A2");
        ideal("A2(-1)", "A2(-1)", 1, "A2(-1)");
        ideal("A4(-1,s2,c3)", "A4(s1,c2,-3)", 6, "A4(s1,c2,c3)");
        ideal("A4(s1,s2)", "A4(-1,c2)", 5, "A4(s1,c2)");
        ideal("A2(c1)", "A2", 2, "A2");
        ideal("A2", "A2(c1)", 2, "A2");
        ideal("A2(g0,p1)", "A2(k0,k1)", 4, "A2(g0,p1)");
        ideal("A2(-1)", "A2(k0,k1)", 3, "A2(k1)");
        ideal("A2(-1,p2)", "A2(p1,k2)", 4, "A2(p1,p2)");
        ideal("A2(s1,g1)", "A2(c1,k1)", 4, "A2(c1,g1)");
        ideal("A2(c1,k1)", "A2", 3, "A2(k1)");
        ideal("A2(c1,g1)", "A2(s1)", 4, "A2(c1,g1)");
        ideal("A2 B4(-1)", "A2(-1)", 5, "A2 B4(-1)");
        ideal("A2(-1)", "A2 B4(-1,g2)", 6, "A2 B4(-1,g2)");
        ideal("A2(-1)", "A2(s1) B-C2", 6, "A2(s1) B2 C2");
        ideal("ZZ2(-1)", "ZZ2(-2)", 2, "ZZ2");
        ideal("A-C8 D6", "A-C8 D6(-1)", 30, "A-C8 D6");
    }

    private static void joiningFails() {
        ideal("A2", "B2", NONE, "B2");
        ideal("A2 B4", "A2 B2", NONE, "A2 B2");
        ideal("A4", "A2 B2", NONE, "A2 B2");
        ideal("A-C8 D8(-1,-2)", "A-C8 D8(-3,-4)", NONE, "A-C8 D8(-3,-4)");
        ideal("A8(p0) B-C8 D6(-1)", "A-C8 D6(-2)", NONE, "A-C8 D6(-2)");
        ideal("A-C8 D6(-2)", "A8(p0) B-C8 D6(-1)", 30, "A-C8 D6");
    }

    /** MARKS and PAGES are kept with a copy, but not in what two have together. */
    private static void joiningForgets() {
        QuireDesk d = new QuireDesk();
        Check.things(d, 0, "LL");
        d.rule(0, 5, 9);
        d.mark(0, 0, 4, 33);
        d.fewest(0);
        Check.is("page", d.where(0, 2, 0), 11);
        Check.is("head", d.where(0, 2, 1), 33);
        d.copy(2);
        Check.is("ideal", d.ideal(2, 2), 2);
        Check.is("no page", d.where(0, 2, 0), 0);
        Check.is("no head", d.where(0, 2, 1), 0);
    }
}
