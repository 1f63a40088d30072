/** Promises 9 to 12, and BEGINNINGS of term 2: each sentence that names an edge. */
public final class WaysEdgesTest {
    private static final int NONE = QuireDesk.NONE;
    private static final int LOW = Integer.MIN_VALUE;
    private static final int HIGH = Integer.MAX_VALUE;
    private static final int[] NO_ROWS = {LOW, -1, 6, 7, HIGH};

    public static void main(String[] args) {
        noSuchRow();
        asksOnly();
        pickAtTheEdges();
        pickOfMany();
        fewestIsTheFirst();
        fewestIsNone();
        whyNone();
        whyTheLeast();
        whyHowMany();
        beginsWithGhosts();
        beginsWithEightQuires();
        beginsOpen();
        beginsLoose();
        beginsWithStubs();
        madeLatest();
        asItWasThen();
        Check.end();
    }

    private static Run row(String kinds, int sizes) {
        return new Run().things(0, kinds).then(d -> d.rule(0, 2, sizes));
    }

    private static Run mark(Run run, int i, int what, int v) {
        return run.then(d -> Check.is("mark", d.mark(0, i, what, v), true));
    }

    private static Run rule(Run run, int what, int v) {
        return run.then(d -> Check.is("rule", d.rule(0, what, v), true));
    }

    /** A desk that has something of all, with a FOLDING of row 0. */
    private static Run busy() {
        Run run = row("TLSCL", 3).then(d -> d.mark(0, 1, 4, 50)).then(d -> d.rule(0, 5, 7));
        return run.read("B2(s1) C2").then(d -> d.copy(1)).then(d -> d.write())
                .then(d -> d.fewest(0)).tape("A2");
    }

    private static void formula(String name, Run run, String due) {
        Check.is(name, Check.formula(run.desk()), due);
    }

    private static void why(String name, Run run, int due) {
        run.keeps(name, d -> d.why(0), due);
        Check.is(name + ": ways", run.desk().ways(0) > 0, due == NONE);
    }

    /** "NONE: no such ROW", "false, and it stays", "NONE, and it stays". */
    private static void noSuchRow() {
        for (int row : NO_ROWS) {
            busy().refuses("ways of row " + row, d -> d.ways(row));
            busy().denies("pick of row " + row, d -> d.pick(row, 0));
            busy().refuses("fewest of row " + row, d -> d.fewest(row));
            busy().refuses("why of row " + row, d -> d.why(row));
        }
        for (int row = 0; row < 6; row++) {
            QuireDesk d = new QuireDesk();
            d.put(row, 0, 1);
            Check.is("ways of row " + row, d.ways(row), 6);
            Check.is("pick of row " + row, d.pick(row, 5), true);
            Check.is("fewest of row " + row, d.fewest(row), 1);
            Check.is("why of row " + row, d.why(row), NONE);
        }
    }

    /** ways() and why() make no FOLDING. */
    private static void asksOnly() {
        busy().keeps("ways", d -> d.ways(0), busy().desk().ways(0));
        busy().keeps("why", d -> d.why(0), NONE);
        busy().keeps("ways of an empty row", d -> d.ways(1), 0);
        busy().keeps("why of an empty row", d -> d.why(1), 0);
    }

    /** "The k-th of these": from 0 on; "false, and it stays, if there is none such". */
    private static void pickAtTheEdges() {
        Run run = busy();
        long ways = run.desk().ways(0);
        long[] wrong = {Long.MIN_VALUE, LOW, -2, -1, ways, ways + 1, HIGH, 1L << 32,
            (1L << 32) + 1, Long.MAX_VALUE};
        for (long k : wrong) {
            run.denies("pick " + k, d -> d.pick(0, k));
        }
        for (long k : new long[] {0, 1, ways - 2, ways - 1}) {
            Check.is("pick " + k, run.desk().pick(0, k), true);
        }
        run.denies("pick of an empty row", d -> d.pick(1, 0));
        formula("the first", row("LL", 2).then(d -> d.pick(0, 0)), "A4(-3,-4)");
        formula("the second", row("LL", 2).then(d -> d.pick(0, 1)), "A4(-2,-4)");
        formula("the fourth", row("LL", 2).then(d -> d.pick(0, 3)), "A4(-2,-3,-4) B4(-2,-3,-4)");
        formula("the seventh", row("LL", 2).then(d -> d.pick(0, 6)), "A4(-2,-3,-4) B4(-1,-2,-3)");
        formula("the last", row("LL", 2).then(d -> d.pick(0, 21)), "A4(-1,-2,-3) B4(-1,-2,-3)");
    }

    /** A number of FOLDINGS that no int holds. */
    private static void pickOfMany() {
        StringBuilder leaves = new StringBuilder();
        for (int i = 0; i < 30; i++) {
            leaves.append("L");
        }
        Run run = row(leaves.toString(), 15);
        long ways = run.desk().ways(0);
        Check.is("more than an int holds", ways > 1L << 40, true);
        run.denies("none behind the last", d -> d.pick(0, ways));
        formula("the first", run.then(d -> d.pick(0, 0)), "A-E2 F4 G8 H8");
        QuireDesk d = run.desk();
        Check.is("the last", d.pick(0, ways - 1), true);
        Check.is("it has eight quires", d.folding(0), 8);
        Check.is("all leaves are in it", d.folding(3) - d.folding(2), 30);
        Check.is("formula", Check.formula(d), "A8(-1,-2,-3,-4) B8(-1,-2,-3,-4) C8(-1,-2,-3,-4)"
                + " D8(-1,-2,-3,-4) E8(-1,-2,-3,-4) F8(-1,-2,-3,-4) G8(-1,-2,-3,-4) H6(-1,-2,-3,-4)");
    }

    /** "Of those with the fewest GHOSTS the first in THE ORDER". */
    private static void fewestIsTheFirst() {
        String[][] due = {{"L", "1", "A2(-2)"}, {"L", "2", "A4(-2,-3,-4)"}, {"LL", "1", "A2"},
            {"LLL", "1", "A2 B2(-2)"}, {"LLL", "2", "A4(-4)"}, {"LLL", "3", "A2 B2(-2)"},
            {"LLLL", "3", "A2 B2"}, {"LLLL", "2", "A4"}, {"LLLL", "10", "A4"},
            {"LLLLL", "2", "A4 B4(-2,-3,-4)"}, {"LLLLL", "6", "A6(-6)"},
            {"LLLLLLLL", "15", "A-D2"}, {"LLLLLLLL", "8", "A8"}, {"LLLLLLLL", "12", "A8"},
            {"LLLLLLLL", "4", "A6 B6(-3,-4,-5,-6)"}};
        int[] ghosts = {1, 3, 0, 1, 1, 1, 0, 0, 0, 3, 1, 0, 0, 0, 4};
        for (int i = 0; i < due.length; i++) {
            Run run = row(due[i][0], Integer.parseInt(due[i][1]));
            Check.is("ghosts of " + due[i][0], run.desk().fewest(0), ghosts[i]);
            formula("fewest of " + due[i][0], run.then(d -> d.fewest(0)), due[i][2]);
            QuireDesk d = run.desk();
            d.fewest(0);
            Check.is("as folding() says", d.folding(2), ghosts[i]);
        }
        Run late = mark(row("LL", 3), 1, 1, 4);
        formula("a later one with fewer", late.then(d -> d.fewest(0)), "A4(-2,-3)");
    }

    /** "NONE, and it stays, if none AGREES". */
    private static void fewestIsNone() {
        busy().refuses("fewest of an empty row", d -> d.fewest(1));
        Run loose = busy().things(2, "PCT");
        loose.refuses("fewest of what does not hang", d -> d.fewest(2));
        Run odd = busy().then(d -> d.mark(0, 1, 1, 5));
        odd.refuses("fewest where none agrees", d -> d.fewest(0));
        odd.denies("pick where none agrees", d -> d.pick(0, 0));
        odd.keeps("ways where none agrees", d -> d.ways(0), 0);
    }

    /** "NONE if one does", whatever a BEGINNING says. */
    private static void whyNone() {
        why("a leaf", row("L", 1), NONE);
        why("a leaf and a plate", row("LT", 1), NONE);
        Run run = row("LSC", 1);
        run = mark(mark(run, 0, 0, 1), 1, 0, 1);
        run = mark(mark(mark(run, 0, 4, 5), 1, 3, 6), 2, 3, 5);
        why("the cancel's word is right", run, NONE);
    }

    /** "The least THING up to which no BEGINNING AGREES". */
    private static void whyTheLeast() {
        for (int i = 0; i < 6; i++) {
            Run run = mark(row("LLLLLL", 1), i, 0, 9);
            why("a letter that can't be, at " + i, run, i);
            why("and one behind it", i < 5 ? mark(run, 5, 0, 9) : run, i);
            why("with a plate ahead", run.then(d -> d.put(0, 0, 5)), i + 1);
        }
        Run pages = rule(row("LLLL", 1), 5, 1);
        for (int page = 1; page <= 18; page++) {
            int due = page % 2 == 0 || page < 5 || page > 11 ? 2 : 3;
            Run run = mark(mark(pages, 2, 2, page), 3, 2, 6);
            why("third on " + page, run, due);
        }
        Run words = mark(mark(mark(mark(row("LL", 1), 0, 0, 1), 1, 0, 1), 0, 4, 1), 1, 3, 2);
        why("words that do not run on", words, 1);
        why("if one is lost between", rule(words, 2, 2), NONE);
    }

    /** "how many THINGS there are, if there is none such, but no FOLDING AGREES". */
    private static void whyHowMany() {
        why("nothing", row("", 15), 0);
        why("a plate", row("T", 15), 1);
        why("30 that do not hang", row("PCTPCTPCTPCTPCTPCTPCTPCTPCTPCT", 15), 30);
        why("one of six", row("L", 4), 1);
        why("two of six", row("LL", 4), NONE);
        why("three of eight", row("LLL", 8), 3);
        why("with others", row("TLPLCLT", 8), 7);
        why("four of eight", row("LLLL", 8), NONE);
        why("nine in sixes", row("LLLLLLLLL", 4), NONE);
        why("nine in eights", row("LLLLLLLLL", 8), NONE);
        why("five with the second quire begun", mark(row("LLLLL", 8), 4, 0, 2), 5);
    }

    /** "its GHOSTS are those ahead of that THING": four can be, five can't. */
    private static void beginsWithGhosts() {
        for (int number = 1; number <= 8; number++) {
            Run run = mark(row("L", 8), 0, 1, number);
            why("a leaf in place " + number, run, number <= 5 ? 1 : 0);
        }
        for (int number = 1; number <= 8; number++) {
            Run run = mark(mark(row("LL", 8), 0, 1, 2), 1, 1, number);
            why("one behind place 2 in " + number, run, number >= 7 || number <= 2 ? 1 : 2);
        }
        for (int number = 1; number <= 6; number++) {
            Run run = mark(mark(row("LL", 4), 0, 1, 1), 1, 1, number);
            int due = number >= 2 ? NONE : 1;
            why("one behind place 1 of six in " + number, run, due);
        }
    }

    /** A BEGINNING has 8 QUIRES at most, each but the last one whole. */
    private static void beginsWithEightQuires() {
        why("the 17th of pairs", row("LLLLLLLLLLLLLLLLL", 1), 16);
        why("the 17th of pairs, with a plate", row("LLLLLLLLTLLLLLLLLL", 1), 17);
        Run run = row("LLLLLLLL", 15);
        for (int i = 0; i < 8; i++) {
            run = mark(run, i, 0, i + 1);
        }
        why("eight quires", run, NONE);
        why("a ninth", mark(run.things(0, "L"), 8, 0, 9), 8);
        Run eights = row("LLLLL", 8);
        for (int i = 0; i < 5; i++) {
            eights = mark(eights, i, 0, i < 3 ? 1 : 2);
        }
        why("a first quire that is not whole", eights, 3);
    }

    /** "PLACES behind the last THING of which nothing is asked". */
    private static void beginsOpen() {
        Run run = mark(mark(row("LL", 8), 0, 5, 1), 1, 5, 2);
        why("the other halves are behind", run, 2);
        Run pair = mark(mark(row("LL", 8), 0, 1, 4), 1, 1, 5);
        why("a pair in the middle", pair, 2);
        why("of unlike water", mark(mark(pair, 0, 5, 1), 1, 5, 2), 1);
        why("of one side", mark(mark(pair, 0, 6, 1), 1, 6, 1), 1);
        why("of two sides", mark(mark(pair, 0, 6, 1), 1, 6, 2), 2);
        why("whose word does not run on", mark(mark(pair, 0, 4, 1), 1, 3, 2), 1);
        why("the last one's word", mark(pair, 1, 4, 9), 2);
        Run wide = mark(row("LLLL", 8), 3, 0, 2);
        why("a quire of three", wide, 3);
        why("sizes of the rule alone", mark(row("L", 1), 0, 1, 3), 0);
        why("in a larger one", mark(row("L", 3), 0, 1, 3), NONE);
    }

    /** "Without a THING that HANGS among them each is one." */
    private static void beginsLoose() {
        Run run = rule(row("CPT", 1), 5, 1);
        for (int i = 0; i < 3; i++) {
            run = mark(mark(mark(run, i, 0, 46), i, 2, 2), i, 1, 8);
        }
        why("marks of what does not hang", run, 3);
        why("behind them a leaf", run.things(0, "L"), NONE);
        why("behind them a leaf of another letter", mark(run.things(0, "L"), 3, 0, 2), 3);
        why("and more of them behind", mark(run.things(0, "LT"), 3, 0, 2), 3);
    }

    /** A CANCEL is among THINGS 0 .. n from its own number on. */
    private static void beginsWithStubs() {
        Run run = rule(row("LSCL", 1), 5, 1);
        for (int i : new int[] {0, 1}) {
            run = mark(run, i, 0, 1);
        }
        why("nothing else is known", run, NONE);
        why("the cancel's page", mark(run, 2, 2, 5), 2);
        why("the stub's page", mark(mark(run, 1, 2, 5), 2, 2, 5), 1);
        Run words = mark(mark(run, 0, 4, 7), 2, 3, 8);
        why("the cancel's word", words, 2);
        why("the stub's word", mark(words, 1, 3, 9), 1);
        why("behind the stub", mark(run, 3, 0, 1), 3);
        why("not right behind it", mark(run, 2, 2, 5).then(d -> d.put(0, 2, 5)), NONE);
    }

    /** "THE FOLDING is the one that was made latest (at first none)". */
    private static void madeLatest() {
        Run run = row("L", 1);
        formula("at first", run, "none");
        run = run.then(d -> d.pick(0, 1));
        formula("pick", run, "A2(-1)");
        run = run.then(d -> d.fewest(0));
        formula("fewest", run, "A2(-2)");
        run = run.then(d -> d.copy(0)).read("A4(-1,-2)");
        formula("read", run, "A4(-1,-2)");
        run = run.then(d -> d.ideal(0, 0));
        formula("ideal", run, "A2(-2)");
        run = run.then(d -> d.pick(0, 2)).then(d -> d.fewest(1)).read("A2(-1,-2)")
                .then(d -> d.ideal(0, 1));
        formula("calls that make none", run, "A2(-2)");
    }

    /** "it is that of its ROW as it was then, with all that it had". */
    private static void asItWasThen() {
        Run run = rule(rule(row("TLSCL", 2), 4, 5), 5, 9);
        run = mark(mark(run, 1, 4, 31), 2, 4, 32).then(d -> d.fewest(0)).then(d -> d.copy(0));
        String before = run.seen().get(6) + run.seen().get(7);
        Run changed = run;
        for (int i = 0; i < 5; i++) {
            changed = changed.then(d -> d.gone(0, 0));
        }
        changed = rule(rule(rule(changed, 2, 1), 4, 1), 5, 0);
        changed = changed.things(0, "SSSSSS").then(d -> d.mark(0, 0, 4, 99));
        Check.is("the folding stays", changed.seen().get(6) + changed.seen().get(7), before);
        Check.is("formula", Check.formula(changed.desk()), "E4(p0,c2,-4)");
        Check.is("page", changed.desk().where(0, 2, 0), 11);
        Check.is("word", changed.desk().where(0, 2, 1), 31);
        Check.is("word behind the stub", changed.desk().where(0, 3, 1), 32);
        Check.is("kept too", changed.desk().against(0, 0), 0);
        QuireDesk d = changed.desk();
        d.ideal(0, 0);
        Check.is("as it was", Check.formula(d), "E4(p0,c2,-4)");
    }
}
