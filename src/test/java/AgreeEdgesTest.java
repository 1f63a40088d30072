/** Term 2, what a FOLDING is and when it AGREES: each sentence that names an edge. */
public final class AgreeEdgesTest {
    private static final int NONE = QuireDesk.NONE;
    private static final int LETTER = 0;
    private static final int NUMBER = 1;
    private static final int PAGE = 2;
    private static final int HEAD = 3;
    private static final int CATCH = 4;
    private static final int WATER = 5;
    private static final int SIDE = 6;

    public static void main(String[] args) {
        oneThatHangs();
        sizesOfTheRule();
        eightQuires();
        fourGhosts();
        oneThing();
        inTheirOrder();
        letters();
        lettersOfAll();
        numbers();
        pages();
        pagesNotNumbered();
        farPages();
        catchWords();
        catchWordsAcrossQuires();
        catchWordsOfCancels();
        catchWordsOfOthers();
        water();
        sides();
        pagesOfCancels();
        marksOfOthers();
        theOrder();
        Check.end();
    }

    /** All FOLDINGS of a ROW that AGREE, in THE ORDER, each picked on a desk of its own. */
    static String all(Run run, int row) {
        StringBuilder s = new StringBuilder();
        long ways = run.desk().ways(row);
        for (long k = 0; k < ways; k++) {
            QuireDesk d = run.desk();
            Check.is("pick " + k, d.pick(row, k), true);
            s.append(k == 0 ? "" : "; ").append(Check.formula(d));
        }
        run.denies("pick behind the last", d -> d.pick(row, ways));
        return s.toString();
    }

    private static void all(String name, Run run, String due) {
        Check.is(name, all(run, 0), due);
    }

    private static Run row(String kinds, int sizes) {
        return new Run().things(0, kinds).then(d -> d.rule(0, 2, sizes));
    }

    private static Run mark(Run run, int i, int what, int v) {
        return run.then(d -> Check.is("mark", d.mark(0, i, what, v), true));
    }

    private static Run rule(Run run, int what, int v) {
        return run.then(d -> Check.is("rule", d.rule(0, what, v), true));
    }

    /** "A FOLDING of a ROW with at least one THING that HANGS". */
    private static void oneThatHangs() {
        all("of nothing", row("", 15), "");
        all("of what does not hang", row("PCT", 15), "");
        all("of a leaf", row("L", 1), "A2(-2); A2(-1)");
        all("of a stub", row("S", 1), "A2(s1,-2); A2(-1,s2)");
        all("of a leaf with others", row("PLC", 1), "A2(g0,k1,-2); A2(g0,-1,k2)");
    }

    /** "SIZES (bit k: quires of 2 k + 2 leaves, k 0 .. 3)": only those of the RULE. */
    private static void sizesOfTheRule() {
        for (int sizes = 1; sizes <= 15; sizes++) {
            Run run = row("LLLL", sizes);
            boolean[] seen = new boolean[10];
            long ways = run.desk().ways(0);
            for (long k = 0; k < ways; k++) {
                QuireDesk d = run.desk();
                d.pick(0, k);
                for (int q = 0; q < d.folding(0); q++) {
                    seen[d.size(q)] = true;
                }
            }
            for (int size = 0; size < 10; size++) {
                boolean even = size > 0 && size % 2 == 0 && size <= 8;
                boolean due = even && (sizes >> (size / 2 - 1) & 1) == 1;
                Check.is("size " + size + " by " + sizes, seen[size], due);
            }
        }
    }

    /** "1 to 8 QUIRES". */
    private static void eightQuires() {
        String[] due = {"A2", "A2 B2", "A-C2", "A-D2", "A-E2", "A-F2", "A-G2", "A-H2"};
        StringBuilder leaves = new StringBuilder();
        for (int n = 1; n <= 8; n++) {
            leaves.append("LL");
            QuireDesk d = row(leaves.toString(), 1).desk();
            Check.is("fewest of " + n, d.fewest(0), 0);
            Check.is("formula of " + n, Check.formula(d), due[n - 1]);
            Check.is("quires", d.folding(0), n);
        }
        Check.is("eight pairs in one way", row(leaves.toString(), 1).desk().ways(0), 1);
        leaves.append("L");
        Run nine = row(leaves.toString(), 1);
        nine.keeps("ways of 17", d -> d.ways(0), 0);
        nine.keeps("why of 17", d -> d.why(0), 16);
        nine.denies("pick of 17", d -> d.pick(0, 0));
        nine.refuses("fewest of 17", d -> d.fewest(0));
        Run apart = row("LLLLLLLL", 2);
        for (int i = 0; i < 8; i++) {
            apart = mark(apart, i, NUMBER, 3);
        }
        all("each in a quire of its own", apart, "A4(-1,-2,-4) B4(-1,-2,-4) C4(-1,-2,-4)"
                + " D4(-1,-2,-4) E4(-1,-2,-4) F4(-1,-2,-4) G4(-1,-2,-4) H4(-1,-2,-4)");
        apart = mark(apart.things(0, "L"), 8, NUMBER, 3);
        all("and no ninth", apart, "");
        Check.is("at the ninth", apart.desk().why(0), 8);
    }

    /** "in a QUIRE at most 4 GHOSTS". */
    private static void fourGhosts() {
        Check.is("one of 6", row("L", 4).desk().ways(0), 0);
        Check.is("two of 6", row("LL", 4).desk().ways(0), 15);
        Check.is("three of 6", row("LLL", 4).desk().ways(0), 20);
        Check.is("three of 8", row("LLL", 8).desk().ways(0), 0);
        Check.is("four of 8", row("LLLL", 8).desk().ways(0), 70);
        Check.is("five of 8", row("LLLLL", 8).desk().ways(0), 56);
        Check.is("seven of 8", row("LLLLLLL", 8).desk().ways(0), 8);
        Check.is("eight of 8", row("LLLLLLLL", 8).desk().ways(0), 1 + 70 * 70);
        Check.is("four ghosts", row("LL", 4).desk().fewest(0), 4);
        Check.is("and four", row("LLLL", 8).desk().fewest(0), 4);
        Check.is("seven with two of 8", row("LLLLLLLL", 4).desk().fewest(0), 4);
    }

    /** "and one THING at least": no QUIRE of GHOSTS alone, of 2 or of 4. */
    private static void oneThing() {
        Check.is("one of 2", row("L", 1).desk().ways(0), 2);
        Check.is("one of 4", row("L", 2).desk().ways(0), 4);
        Check.is("one of 2 or 4", row("L", 3).desk().ways(0), 6);
        Run behind = mark(row("L", 3), 0, LETTER, 2);
        Check.is("not behind a quire that is lost", behind.desk().ways(0), 0);
        behind = rule(mark(row("LL", 3), 1, PAGE, 11), 5, 1);
        all("nor between two", behind, "A2(-2) B4(-1,-2,-3); A2(-1) B4(-1,-2,-3);"
                + " A4(-2,-3,-4) B2(-1); A4(-2,-3,-4) B4(-1,-3,-4); A4(-1,-3,-4) B2(-1);"
                + " A4(-1,-3,-4) B4(-1,-3,-4); A4(-1,-2,-4) B2(-1); A4(-1,-2,-4) B4(-1,-3,-4);"
                + " A4(-1,-2,-3) B2(-1); A4(-1,-2,-3) B4(-1,-3,-4)");
    }

    /** "All THINGS that HANG are in PLACES, in their order." */
    private static void inTheirOrder() {
        Run run = row("LPSL", 3);
        long ways = run.desk().ways(0);
        Check.is("ways", ways, 4 + 2 * 6 * 7 + 6 * 6 * 6);
        for (long k = 0; k < ways; k++) {
            QuireDesk d = run.desk();
            d.pick(0, k);
            StringBuilder order = new StringBuilder();
            for (int q = 0; q < d.folding(0); q++) {
                for (int p = 1; p <= d.size(q); p++) {
                    int i = d.place(q, p);
                    order.append(i >= 0 ? "" + i : "");
                }
            }
            Check.is("order", order.toString(), "023");
        }
    }

    /** "LETTER: the RULE's and the number of its QUIRE together." */
    private static void letters() {
        String[] due = {"", "A2", "A2(-2) B2(-2); A2(-2) B2(-1); A2(-1) B2(-2); A2(-1) B2(-1)", ""};
        for (int v = 1; v <= 3; v++) {
            all("second leaf " + v, mark(row("LL", 1), 1, LETTER, v), due[v]);
        }
        all("first leaf in B", mark(row("LL", 1), 0, LETTER, 2), "");
        Run late = rule(row("LL", 1), 4, 7);
        all("below the first", mark(late, 0, LETTER, 6), "");
        Check.is("at the first", mark(late, 0, LETTER, 7).desk().ways(0), 5);
        all("above the first", mark(late, 0, LETTER, 8), "");
        Check.is("why", mark(late, 0, LETTER, 8).desk().why(0), 0);
    }

    /** The LETTER of the RULE at its edges, and of the eighth QUIRE: 39 and 7 are 46. */
    private static void lettersOfAll() {
        for (int letter : new int[] {1, 2, 15, 16, 38, 39}) {
            for (int v = Math.max(1, letter + 5); v <= Math.min(46, letter + 8); v++) {
                Run run = rule(mark(row("LLLLLLLLLLLLLLLL", 1), 15, LETTER, v), 4, letter);
                boolean last = v == letter + 7;
                Check.is("letter " + v + " from " + letter, run.desk().ways(0), last ? 1 : 0);
                Check.is("why", run.desk().why(0), last ? NONE : 15);
            }
        }
        QuireDesk d = rule(row("LLLLLLLLLLLLLLLL", 1), 4, 39).desk();
        d.fewest(0);
        Check.is("up to the last letters", Check.formula(d), "QQ-ZZ2");
    }

    /** "NUMBER: its PLACE, and not above SIGNED." */
    private static void numbers() {
        for (int number = 1; number <= 8; number++) {
            for (int signed = 0; signed <= 8; signed++) {
                Run run = rule(mark(row("LLLLLLL", 8), 6, NUMBER, number), 3, signed);
                long due = number < 7 || number > signed ? 0 : number == 7 ? 1 : 7;
                Check.is("number " + number + " of " + signed, run.desk().ways(0), due);
            }
        }
        for (int signed = 0; signed <= 8; signed++) {
            Run run = rule(row("L", 1), 3, signed);
            Check.is("not known", run.desk().ways(0), 2);
            all("first", mark(run, 0, NUMBER, 1), signed >= 1 ? "A2(-2)" : "");
            all("second", mark(run, 0, NUMBER, 2), signed >= 2 ? "A2(-1)" : "");
            all("above the size", mark(run, 0, NUMBER, 3), "");
        }
    }

    /** "PAGE, if the RULE's is not 0: that and twice the PLACES ahead of it together." */
    private static void pages() {
        for (int page = 3; page <= 9; page++) {
            Run run = rule(mark(row("L", 1), 0, PAGE, page), 5, 5);
            all("page " + page, run, page == 5 ? "A2(-2)" : page == 7 ? "A2(-1)" : "");
            Check.is("why", run.desk().why(0), page == 5 || page == 7 ? NONE : 0);
        }
        for (int page = 1; page <= 12; page++) {
            Run run = rule(mark(row("LLL", 1), 2, PAGE, page), 5, 1);
            long ways = page == 5 ? 1 : page == 7 ? 3 : page == 9 ? 4 : page == 11 ? 4 : 0;
            Check.is("third on page " + page, run.desk().ways(0), ways);
        }
    }

    /** "0: they are not numbered": then a PAGE that is known asks nothing. */
    private static void pagesNotNumbered() {
        for (int page : new int[] {1, 2, 998, 999}) {
            Run run = mark(mark(row("LL", 1), 0, PAGE, page), 1, PAGE, page);
            Check.is("not numbered, " + page, run.desk().ways(0), 5);
            Check.is("numbered, " + page, rule(run, 5, 1).desk().ways(0), 0);
            Check.is("and not again", rule(rule(run, 5, 1), 5, 0).desk().ways(0), 5);
        }
        Run stub = mark(row("SC", 1), 1, PAGE, 2);
        Check.is("a cancel, not numbered", stub.desk().ways(0), 2);
        Check.is("a cancel, numbered", rule(stub, 5, 1).desk().ways(0), 0);
    }

    /** PAGE 999 is the last that can be known, and the first may be that. */
    private static void farPages() {
        Run run = rule(row("LL", 1), 5, 999);
        Check.is("from 999 on", run.desk().ways(0), 5);
        all("the first on 999", mark(run, 0, PAGE, 999),
                "A2; A2(-2) B2(-2); A2(-2) B2(-1)");
        all("the second on 999", mark(run, 1, PAGE, 999), "");
        Run far = rule(mark(row("LLLLLLLLLLLLLLLL", 1), 15, PAGE, 999), 5, 969);
        Check.is("the 16th on 999", far.desk().ways(0), 1);
        Check.is("or not", rule(far, 5, 968).desk().ways(0), 0);
        Check.is("or not", rule(far, 5, 970).desk().ways(0), 0);
        Check.is("or not", rule(far, 5, 971).desk().ways(0), 0);
        Check.is("or not", rule(far, 5, 967).desk().ways(0), 0);
        QuireDesk d = rule(row("LLLLLLLLLLLLLLLL", 1), 5, 999).desk();
        d.fewest(0);
        Check.is("beyond what can be known", d.where(7, 2, 0), 999 + 2 * 15);
    }

    /** "CATCH: if the next PLACE has a THING whose HEAD is known, that". */
    private static void catchWords() {
        String free = "A4(-3,-4); A4(-2,-4); A4(-2,-3); A4(-1,-4); A4(-1,-3); A4(-1,-2)";
        String apart = "A4(-2,-4); A4(-2,-3); A4(-1,-3)";
        Run run = mark(mark(row("LL", 2), 0, LETTER, 1), 1, LETTER, 1);
        all("nothing is known", run, free);
        all("catch alone", mark(run, 0, CATCH, 9999), free);
        all("head alone", mark(run, 1, HEAD, 9999), free);
        all("alike", mark(mark(run, 0, CATCH, 9999), 1, HEAD, 9999), free);
        all("alike", mark(mark(run, 0, CATCH, 1), 1, HEAD, 1), free);
        all("unlike", mark(mark(run, 0, CATCH, 9999), 1, HEAD, 9998), apart);
        all("unlike", mark(mark(run, 0, CATCH, 1), 1, HEAD, 2), apart);
        all("its own head", mark(mark(run, 0, CATCH, 1), 0, HEAD, 2), free);
        all("the last one's catch", mark(mark(run, 1, CATCH, 1), 0, HEAD, 2), free);
        Run torn = mark(mark(run, 0, CATCH, 1), 1, HEAD, 2);
        all("torn off", torn.then(d -> d.tear(0, 0, 4)), free);
        all("torn below", torn.then(d -> d.tear(0, 0, 5)), apart);
        all("head torn off", torn.then(d -> d.tear(0, 1, 3)), free);
        all("head not torn off", torn.then(d -> d.tear(0, 1, 4)), apart);
    }

    /** "(of the next QUIRE behind the last one)". */
    private static void catchWordsAcrossQuires() {
        Run run = mark(mark(row("LLL", 1), 0, LETTER, 1), 1, LETTER, 1);
        Run alike = mark(mark(run, 1, CATCH, 5), 2, HEAD, 5);
        all("alike", alike, "A2 B2(-2); A2 B2(-1)");
        Run unlike = mark(alike, 2, HEAD, 6);
        all("unlike", unlike, "A2 B2(-1)");
        Run one = mark(mark(row("LL", 1), 0, CATCH, 5), 1, HEAD, 6);
        all("over a ghost", one, "A2(-2) B2(-2); A2(-2) B2(-1); A2(-1) B2(-1)");
    }

    /** "where the next PLACE has a STUB with a CANCEL right behind it in the ROW". */
    private static void catchWordsOfCancels() {
        String both = "A2(c2)";
        Run run = row("LSC", 1);
        for (int i = 0; i < 2; i++) {
            run = mark(mark(run, i, LETTER, 1), i, NUMBER, i + 1);
        }
        run = mark(run, 0, CATCH, 5);
        all("neither is known", run, both);
        all("the stub's, alike", mark(run, 1, HEAD, 5), both);
        all("the stub's, unlike", mark(run, 1, HEAD, 6), "");
        all("the cancel's, alike", mark(run, 2, HEAD, 5), both);
        all("the cancel's, unlike", mark(run, 2, HEAD, 6), "");
        all("the cancel's counts", mark(mark(run, 1, HEAD, 6), 2, HEAD, 5), both);
        all("not the stub's", mark(mark(run, 1, HEAD, 5), 2, HEAD, 6), "");
        Run over = mark(mark(run, 1, HEAD, 5), 2, HEAD, 6);
        Run between = over.then(d -> d.put(0, 2, 3));
        all("not right behind", between, "A2(s2,g2,k2)");
        all("a plate behind", over.then(d -> d.put(0, 3, 5)), "");
        Run leaf = over.then(d -> d.put(0, 1, 1)).then(d -> d.gone(0, 2))
                .then(d -> d.mark(0, 1, NUMBER, 2));
        all("behind a leaf", mark(leaf, 1, HEAD, 5), "A2(k2); A2(-2) B2(-1,k2)");
        all("behind a leaf", mark(leaf, 1, HEAD, 6), "A2(-2) B2(-1,k2)");
    }

    /** HEAD and CATCH of what does not HANG count for nothing else. */
    private static void catchWordsOfOthers() {
        Run run = mark(row("LPL", 1), 0, NUMBER, 1);
        run = mark(mark(run, 2, NUMBER, 2), 2, LETTER, 1);
        all("not known", run, "A2(g1)");
        run = mark(mark(run, 0, CATCH, 5), 2, HEAD, 5);
        all("over a pasted one", mark(mark(run, 1, HEAD, 7), 1, CATCH, 8), "A2(g1)");
        all("which says nothing for the leaf", mark(mark(run, 2, HEAD, 6), 1, HEAD, 5), "");
        Run cancel = mark(mark(row("SCL", 1), 0, NUMBER, 1), 2, NUMBER, 2);
        cancel = mark(mark(mark(cancel, 2, LETTER, 1), 1, CATCH, 5), 2, HEAD, 6);
        all("a cancel's catch", cancel, "A2(c1)");
        all("the stub's catch", mark(cancel, 0, CATCH, 5), "");
    }

    /** "WATER: of two that HANG together, if both have WATER that is known, the same". */
    private static void water() {
        Run run = row("LLLL", 2);
        for (int i = 0; i < 3; i++) {
            run = mark(mark(run, i, NUMBER, i + 1), i, LETTER, 1);
        }
        run = mark(run, 3, NUMBER, 4);
        Run behind = mark(run, 3, NUMBER, 1);
        String both = "A4; A4(-4) B4(-1,-2,-3)";
        all("in one quire", run, both);
        all("in two", behind, "A4(-4) B4(-2,-3,-4)");
        all("1 with 4", mark(mark(run, 0, WATER, 1), 3, WATER, 9), "A4(-4) B4(-1,-2,-3)");
        all("1 with 4", mark(mark(run, 0, WATER, 9), 3, WATER, 9), both);
        all("2 with 3", mark(mark(run, 1, WATER, 1), 2, WATER, 2), "");
        all("2 with 3", mark(mark(run, 1, WATER, 2), 2, WATER, 2), both);
        all("1 and 2", mark(mark(run, 0, WATER, 1), 1, WATER, 2), both);
        all("1 and 3", mark(mark(run, 0, WATER, 1), 2, WATER, 2), both);
        all("one alone", mark(run, 0, WATER, 1), both);
        all("a ghost", mark(mark(behind, 0, WATER, 1), 3, WATER, 2), "A4(-4) B4(-2,-3,-4)");
    }

    /** "SIDE: if both SIDES are known (with WATER or without), unlike ones". */
    private static void sides() {
        Run run = mark(mark(row("LS", 1), 0, LETTER, 1), 1, LETTER, 1);
        String good = "A2(s2)";
        for (int a = 0; a <= 2; a++) {
            for (int b = 0; b <= 2; b++) {
                Run with = mark(mark(run, 0, SIDE, a), 1, SIDE, b);
                String due = a != 0 && a == b ? "" : good;
                all("sides " + a + " " + b, with, due);
                all("with water", mark(mark(with, 0, WATER, 3), 1, WATER, 3), due);
                all("water of one", mark(with, 0, WATER, 3), due);
                all("other water", mark(mark(with, 0, WATER, 3), 1, WATER, 4), "");
            }
        }
        Run alone = mark(mark(row("LL", 1), 0, SIDE, 1), 1, SIDE, 1);
        all("those that do not hang together", alone,
                "A2(-2) B2(-2); A2(-2) B2(-1); A2(-1) B2(-2); A2(-1) B2(-1)");
    }

    /** "Of a CANCEL right behind a STUB: PAGE, if known, as the STUB's would be." */
    private static void pagesOfCancels() {
        Run run = rule(row("SCCL", 1), 5, 11);
        run = mark(mark(run, 0, NUMBER, 1), 3, LETTER, 1);
        String good = "A2(c1,k1)";
        all("not known", run, good);
        for (int page = 9; page <= 14; page++) {
            all("page " + page, mark(run, 1, PAGE, page), page == 11 ? good : "");
            all("a second cancel's", mark(run, 2, PAGE, page), good);
            all("the stub's own", mark(run, 0, PAGE, page), page == 11 ? good : "");
        }
        Run both = mark(mark(run, 0, PAGE, 11), 1, PAGE, 13);
        all("unlike the stub's", both, "");
        all("but not behind a plate", both.then(d -> d.put(0, 1, 5)), "A2(s1,p1,k1,k1)");
        all("nor behind a leaf", both.then(d -> d.gone(0, 0)).then(d -> d.put(0, 0, 1))
                .then(d -> d.mark(0, 0, NUMBER, 1)), "A2(k1,k1)");
        Run torn = mark(run, 1, PAGE, 13).then(d -> d.tear(0, 1, 2));
        all("torn off", torn, good);
        all("not torn off", mark(run, 1, PAGE, 13).then(d -> d.tear(0, 1, 3)), "");
        Run late = rule(mark(row("SLSC", 1), 3, PAGE, 17), 5, 11);
        late = mark(mark(late, 0, NUMBER, 1), 1, LETTER, 1);
        all("of a later stub", late, "A2(s1) B2(-1,c2)");
    }

    /** Of what does not HANG nothing else is asked. */
    private static void marksOfOthers() {
        int[] odd = {46, 8, 998, 9999, 9999, 9, 2};
        for (String kinds : new String[] {"LPL", "LCL", "LTL", "SPL", "STL", "PLL", "LLC"}) {
            Run run = rule(row(kinds, 1), 5, 1);
            String due = all(run, 0);
            int i = kinds.indexOf('P') + kinds.indexOf('C') + kinds.indexOf('T') + 2;
            for (int what = 0; what < 7; what++) {
                all(kinds + " with mark " + what, mark(run, i, what, odd[what]), due);
            }
        }
        Run run = rule(row("LSC", 1), 5, 1);
        String due = all(run, 0);
        for (int what = 0; what < 7; what++) {
            if (what != PAGE && what != HEAD) {
                all("a cancel with mark " + what, mark(run, 2, what, odd[what]), due);
            }
        }
    }

    /** "by QUIRES, of each its size, then its PLACES: a THING ahead of a GHOST". */
    private static void theOrder() {
        all("two leaves of 2", row("LL", 1),
                "A2; A2(-2) B2(-2); A2(-2) B2(-1); A2(-1) B2(-2); A2(-1) B2(-1)");
        all("a leaf of 2 and 4", row("L", 3),
                "A2(-2); A2(-1); A4(-2,-3,-4); A4(-1,-3,-4); A4(-1,-2,-4); A4(-1,-2,-3)");
        all("a size that is less comes first", row("L", 10),
                "A4(-2,-3,-4); A4(-1,-3,-4); A4(-1,-2,-4); A4(-1,-2,-3)");
        Run run = mark(mark(row("LL", 5), 0, NUMBER, 1), 1, NUMBER, 2);
        all("the first size counts", run, "A2; A2(-2) B2(-1); A6(-3,-4,-5,-6)");
        run = mark(mark(row("LL", 3), 0, NUMBER, 1), 1, NUMBER, 2);
        all("sizes of later quires too", run, "A2; A2(-2) B2(-1); A2(-2) B4(-1,-3,-4);"
                + " A4(-3,-4); A4(-2,-3,-4) B2(-1); A4(-2,-3,-4) B4(-1,-3,-4)");
    }
}
