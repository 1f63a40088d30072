/** Term 3 and promises 18 to 24: each sentence that names an edge, and all that stays. */
public final class FormulaEdgesTest {
    private static final int NONE = QuireDesk.NONE;
    private static final int LOW = Integer.MIN_VALUE;
    private static final int HIGH = Integer.MAX_VALUE;

    public static void main(String[] args) {
        lettersOfAll();
        runsOfQuires();
        itemsOfPlaces();
        itemsBehindPlaces();
        stubsAndCancels();
        writeRefused();
        writeAgain();
        outAtTheEdges();
        feedAtTheEdges();
        feedBytes();
        endAtTheEdges();
        takeAll();
        readEmpties();
        readStays();
        readForgets();
        faultAtTheEdges();
        Check.end();
    }

    /** A desk that has something of all: OUT is "B4(-1,p2)", the TAPE "A2(s1)". */
    private static Run busy() {
        return new Run().things(0, "LS").then(d -> d.rule(0, 5, 3)).then(d -> d.mark(0, 0, 4, 8))
                .read("B4(-1,p2)").then(d -> d.write()).then(d -> d.copy(3))
                .read("C3").then(d -> d.fewest(0)).tape("A2(s1)");
    }

    private static String written(Run run) {
        return Check.formula(run.desk());
    }

    /** LETTERS 1 .. 46: A .. Z without J, U, W, then AA .. ZZ. */
    private static void lettersOfAll() {
        String names = "A B C D E F G H I K L M N O P Q R S T V X Y Z AA BB CC DD EE FF GG HH II KK"
                + " LL MM NN OO PP QQ RR SS TT VV XX YY ZZ";
        String[] all = names.split(" ");
        Check.is("how many", all.length, 46);
        for (int n = 1; n <= 46; n++) {
            Run run = new Run().read(all[n - 1] + "2");
            Check.is("letter of " + all[n - 1], run.desk().folding(4), n);
            Check.is("written", written(run), all[n - 1] + "2");
            if (n < 46) {
                String next = all[n - 1] + "2 " + all[n] + "2";
                Check.is("two of them", written(new Run().read(next)), next);
                String range = all[n - 1] + "-" + all[n] + "2";
                Check.is("as a range", written(new Run().read(range)), next);
            }
            if (n <= 39) {
                int letter = n;
                Run row = new Run().things(2, "L").then(d -> d.rule(2, 4, letter))
                        .then(d -> d.fewest(2));
                Check.is("of a row", written(row), all[n - 1] + "2(-2)");
            }
        }
    }

    /** "of one size, without ITEMS, three at least". */
    private static void runsOfQuires() {
        String[][] due = {{"A2", "A2"}, {"A2 B2", "A2 B2"}, {"A2 B2 C2", "A-C2"},
            {"A2 B2 C4", "A2 B2 C4"}, {"A2 B2 C4 D4", "A2 B2 C4 D4"},
            {"A2 B2 C4 D4 E4", "A2 B2 C-E4"}, {"A2 B2 C2 D4 E4 F4", "A-C2 D-F4"},
            {"A2(-1) B2 C2", "A2(-1) B2 C2"}, {"A2(-1) B2 C2 D2", "A2(-1) B-D2"},
            {"A2 B2(p2) C2", "A2 B2(p2) C2"}, {"A2 B2 C2 D2(s2)", "A-C2 D2(s2)"},
            {"A2 B2 C2(k1) D2 E2 F2", "A2 B2 C2(k1) D-F2"}, {"A2(g0) B2 C2", "A2(g0) B2 C2"},
            {"A2 B2 C2(g2) D2", "A2 B2 C2(g2) D2"}, {"A2 B2 C2 D2 E2 F2 G2 H2", "A-H2"},
            {"Y2 Z2 AA2 BB2", "Y-BB2"}, {"A-B2", "A2 B2"}, {"A-B2 C-D2", "A-D2"},
            {"A8 B8 C8 D6", "A-C8 D6"}, {"A4 B4 C4 D2 E2 F2", "A-C4 D-F2"}};
        for (String[] pair : due) {
            Check.is("written of " + pair[0], written(new Run().read(pair[0])), pair[1]);
            Check.is("and read again", written(new Run().read(pair[1])), pair[1]);
        }
    }

    /** "at a PLACE p: -p a GHOST, sp a STUB without a CANCEL right behind it, cp with one". */
    private static void itemsOfPlaces() {
        for (int size = 2; size <= 8; size += 2) {
            for (int p = 1; p <= size; p++) {
                for (String sign : new String[] {"-", "s", "c", "g", "k", "p"}) {
                    String text = "A" + size + "(" + sign + p + ")";
                    Run run = new Run().read(text);
                    Check.is("written", written(run), text);
                    int i = sign.equals("-") ? -2 : p - 1;
                    Check.is("what is there", run.desk().place(0, p), i);
                    int things = size + (sign.equals("-") ? -1 : sign.equals("s") ? 0 : 1);
                    Check.is("things", run.desk().folding(1), things);
                }
            }
        }
    }

    /** "for what stands behind it and does not HANG, in order"; p 0 ahead of all. */
    private static void itemsBehindPlaces() {
        String[][] due = {{"PCTLL", "A2(g0,k0,p0)"}, {"LPCTL", "A2(g1,k1,p1)"},
            {"LLTCP", "A2(p2,k2,g2)"}, {"LLTL", "A2(p2) B2(-2)"}, {"LLLT", "A2 B2(p1,-2)"},
            {"TLTLTLT", "A2(p0,p1,p2) B2(p1,-2)"}, {"LLCLL", "A2(k2) B2"},
            {"CCLLLLLL", "A2(k0,k0) B2 C2"}};
        for (String[] pair : due) {
            Run run = new Run().things(3, pair[0]).then(d -> d.rule(3, 2, 1))
                    .then(d -> d.fewest(3));
            Check.is("written of " + pair[0], written(run), pair[1]);
        }
        Run lost = new Run().things(3, "LTL").then(d -> d.rule(3, 2, 1)).then(d -> d.mark(3, 1, 0, 1));
        String[] all = {"A2(p1)", "A2(p1,-2) B2(-2)", "A2(p1,-2) B2(-1)", "A2(-1,p2) B2(-2)",
            "A2(-1,p2) B2(-1)"};
        for (int k = 0; k < 5; k++) {
            int way = k;
            Check.is("way " + k, written(lost.then(d -> d.pick(3, way))), all[k]);
        }
    }

    /** "but a CANCEL of such a STUB". */
    private static void stubsAndCancels() {
        String[][] due = {{"SL", "A2(s1)"}, {"SCL", "A2(c1)"}, {"SCCL", "A2(c1,k1)"},
            {"SPCL", "A2(s1,g1,k1)"}, {"STCL", "A2(s1,p1,k1)"}, {"LCL", "A2(k1)"},
            {"CSL", "A2(k0,s1)"}, {"SSC", "A2(s1,c2)"}, {"SCS", "A2(c1,s2)"},
            {"SCSC", "A2(c1,c2)"}, {"SCPCT", "A2(c1,g1,k1,p1,-2)"}, {"S", "A2(s1,-2)"},
            {"LS", "A2(s2)"}, {"LSC", "A2(c2)"}};
        for (String[] pair : due) {
            Run run = new Run().things(4, pair[0]).then(d -> d.rule(4, 2, 1))
                    .then(d -> d.fewest(4));
            Check.is("written of " + pair[0], written(run), pair[1]);
            Run again = new Run().read(pair[1]);
            Check.is("read again", written(again), pair[1]);
            Check.is("things", again.desk().folding(1), pair[0].length());
            again = again.then(d -> d.copy(0)).then(d -> d.fewest(4));
            Check.is("kept", again.desk().against(0, 0), 0);
        }
    }

    /** "NONE, and OUT stays, without one." */
    private static void writeRefused() {
        Run none = new Run().things(0, "L").tape("A2");
        none.refuses("write without one", d -> d.write());
        Run fault = none.then(d -> d.read()).read("A2(").tape("B2");
        Check.is("there is one now", fault.desk().write(), 2);
        Run only = new Run().read("A9").tape("A2");
        only.refuses("write behind a fault", d -> d.write());
    }

    /** "The FORMULA of THE FOLDING is OUT: how many bytes"; the FOLDING and the TAPE stay. */
    private static void writeAgain() {
        Run run = busy();
        Check.is("out ahead of it", run.desk().out(0), 'B');
        String before = run.seen().get(6);
        Run again = run.then(d -> Check.is("write", d.write(), 6));
        Check.is("out behind it", again.desk().out(0), 'A');
        Check.is("the folding stays", again.seen().get(6), before);
        Check.is("the tape stays", again.tapeLength(), 6);
        again.keeps("write once more", d -> d.write(), 6);
        Run shorter = again.read("A2").then(d -> d.write());
        Check.is("nothing is left of a longer one", shorter.desk().out(2), NONE);
    }

    /** "Byte i of OUT; NONE if there is none." */
    private static void outAtTheEdges() {
        String due = "B4(-1,p2)";
        for (int i = 0; i < due.length(); i++) {
            int at = i;
            busy().keeps("out " + i, d -> d.out(at), due.charAt(i));
        }
        for (int i : new int[] {LOW, -2, -1, 9, 10, 399, 400, 401, HIGH}) {
            busy().refuses("out " + i, d -> d.out(i));
        }
        Run none = new Run().tape("A2");
        for (int i : new int[] {-1, 0, 1}) {
            none.refuses("out of nothing", d -> d.out(i));
        }
    }

    /** "NONE, and none come, if there would be more than 400." */
    private static void feedAtTheEdges() {
        for (int n = 0; n <= 400; n += n < 360 ? 40 : 1) {
            int length = n;
            Run run = busy().then(d -> d.end(0));
            for (int k = 0; k < 20; k++) {
                run = run.then(d -> d.feed(0x41322042, 0x32204332, 0x20443220, 0x45322046, 0x32204732));
            }
            run = run.then(d -> Check.is("end", d.end(length), length));
            if (n > 380) {
                run.refuses("feed behind " + n, d -> d.feed(1, 2, 3, 4, 5));
            } else {
                Check.is("feed behind " + n, run.desk().feed(1, 2, 3, 4, 5), n + 20);
                Check.is("then there are", run.then(d -> d.feed(1, 2, 3, 4, 5)).tapeLength(), n + 20);
            }
        }
    }

    /** "Twenty bytes come behind those on the TAPE, the highest of each int first". */
    private static void feedBytes() {
        QuireDesk d = new QuireDesk();
        Check.is("feed", d.feed(0x41382842, 0, 0, 0, 0), 20);
        Check.is("end", d.end(3), 3);
        Check.is("feed behind", d.feed(0x2d312c73, 0x332c6334, 0x2c67352c, 0x6b362c70, 0x3829ffff), 23);
        Check.is("end", d.end(21), 21);
        Check.is("read", d.read(), 11);
        Check.is("formula", Check.formula(d), "A8(-1,s3,c4,g5,k6,p8)");
        for (int i = 0; i < 20; i++) {
            int[] five = new int[5];
            five[i / 4] = 0x80 << (24 - 8 * (i % 4));
            QuireDesk high = new QuireDesk();
            for (int k = 0; k < 5; k++) {
                five[k] |= 0x20202020 & ~(i / 4 == k ? 0xff << (24 - 8 * (i % 4)) : 0);
            }
            Check.tape(high, "A2");
            high.feed(five[0], five[1], five[2], five[3], five[4]);
            Check.is("a byte of 128", high.read(), NONE);
            Check.is("it can't stand there", high.fault(0), 1);
            Check.is("its place", high.fault(1), 2 + i);
        }
    }

    /** "n; NONE if there are not so many, or n is below 0." */
    private static void endAtTheEdges() {
        for (int n : new int[] {LOW, -2, -1, 7, 8, 20, 400, 401, HIGH}) {
            busy().refuses("end " + n, d -> d.end(n));
        }
        busy().keeps("end at its length", d -> d.end(6), 6);
        for (int n = 0; n <= 6; n++) {
            int length = n;
            Check.is("end " + n, busy().desk().end(n), n);
            Run run = busy().then(d -> d.end(length));
            Check.is("it has so many", run.tapeLength(), n);
            run.refuses("no more", d -> d.end(length + 1));
        }
        Run empty = new Run();
        empty.keeps("end 0 of none", d -> d.end(0), 0);
        empty.refuses("end 1 of none", d -> d.end(1));
        Run first = busy().then(d -> d.end(2));
        Check.is("its first bytes", first.then(d -> d.read()).desk().fault(0), 0);
        Check.is("are read", written(first.then(d -> d.read())), "A2");
    }

    /** "OUT becomes the TAPE: how many"; what was on the TAPE is gone, OUT stays. */
    private static void takeAll() {
        Run run = busy().then(d -> Check.is("take", d.take(), 9));
        Check.is("the tape", run.tapeLength(), 9);
        run.keeps("take again", d -> d.take(), 9);
        Check.is("out stays", run.desk().out(8), ')');
        Check.is("what it is", written(run.then(d -> d.read())), "B4(-1,p2)");
        Run none = new Run().tape("A2(s1)").then(d -> Check.is("take nothing", d.take(), 0));
        Check.is("the tape is empty", none.tapeLength(), 0);
        Run full = new Run().read("A2").then(d -> d.write());
        for (int k = 0; k < 20; k++) {
            full = full.then(d -> d.feed(1, 2, 3, 4, 5));
        }
        Check.is("a full tape", full.tapeLength(), 400);
        full = full.then(d -> Check.is("take", d.take(), 2));
        Check.is("is that", full.tapeLength(), 2);
        Check.is("feed behind it", full.desk().feed(0, 0, 0, 0, 0), 22);
    }

    /** "The TAPE (which is empty then, with a FAULT, too)". */
    private static void readEmpties() {
        String[] texts = {"A2", "A2 ", "A2(-1,-2)", "A-D8", "", "x", "A2 C2", "A2(s3)"};
        for (String text : texts) {
            Run run = busy().tape(text).then(d -> d.read());
            Check.is("the tape behind " + text, run.tapeLength(), 0);
            Check.is("out stays", run.desk().out(0), 'B');
            Check.is("feed from the first", run.desk().feed(0, 0, 0, 0, 0), 20);
        }
    }

    /** "NONE: a FAULT (THE FOLDING stays)"; what is kept stays, too. */
    private static void readStays() {
        String[] texts = {"", " ", "A", "A3", "A2 ", "A2 A2", "A-B2(", "A2(-3)", "A-I2",
            "A8(-1,-2,-3,-4,-5)", "A2(-1,-2)", "A-D8", "B4(p0,-2,-3,c4) C8(g1) E2"};
        for (String text : texts) {
            Run before = busy().then(d -> d.end(0));
            Run after = before.read(text);
            Check.is("read " + text, before.tape(text).desk().read(), NONE);
            for (int line = 0; line < before.seen().size(); line++) {
                String was = before.seen().get(line);
                if (!was.startsWith("fault")) {
                    Check.is("what stays behind " + text, after.seen().get(line), was);
                }
            }
        }
    }

    /** "(of THINGS without known MARKS, pages that are not numbered): how many THINGS". */
    private static void readForgets() {
        Run run = busy().tape("A2(g0,c1)").then(d -> Check.is("read", d.read(), 4));
        int[] due = {1, 4, 0, 2, 1};
        for (int what = 0; what < 5; what++) {
            Check.is("folding " + what, run.desk().folding(what), due[what]);
        }
        Check.is("no page", run.desk().where(0, 2, 0), 0);
        Check.is("no word", run.desk().where(0, 2, 1), 0);
        Check.is("the row stays", run.desk().about(0, 0), 2);
        Check.is("its word stays", run.desk().look(0, 0, 4), 8);
        Run thirty = new Run().tape("A-C8 D6").then(d -> Check.is("thirty", d.read(), 30));
        Check.is("thirty", thirty.desk().folding(1), 30);
        Check.is("the least", new Run().tape("A2(-1)").desk().read(), 1);
    }

    /** "its FAULT (0 without one), its place (NONE). NONE for another what; 0, NONE ahead". */
    private static void faultAtTheEdges() {
        Run none = new Run().tape("A3");
        none.keeps("fault ahead of any", d -> d.fault(0), 0);
        none.refuses("place ahead of any", d -> d.fault(1));
        Run fault = none.then(d -> d.read());
        fault.keeps("a fault", d -> d.fault(0), 1);
        fault.keeps("its place", d -> d.fault(1), 1);
        Run sound = fault.read("A2");
        sound.keeps("no fault", d -> d.fault(0), 0);
        sound.refuses("no place", d -> d.fault(1));
        for (int what : new int[] {LOW, -2, -1, 2, 3, HIGH}) {
            none.refuses("fault " + what, d -> d.fault(what));
            fault.refuses("fault " + what, d -> d.fault(what));
            sound.refuses("fault " + what, d -> d.fault(what));
        }
        Run later = fault.things(0, "L").then(d -> d.fewest(0)).then(d -> d.write())
                .then(d -> d.take()).then(d -> d.end(1)).then(d -> d.copy(0))
                .then(d -> d.ideal(0, 0));
        later.keeps("it stays until the next read", d -> d.fault(0), 1);
        later.keeps("and its place", d -> d.fault(1), 1);
        Run empty = sound.then(d -> d.end(0)).then(d -> d.read());
        empty.keeps("an empty tape", d -> d.fault(0), 1);
        empty.keeps("its end", d -> d.fault(1), 0);
    }
}
