/** Promises 18 to 24: write, out, feed, end, take, read, fault. */
public final class FormulaTest {
    private static final int NONE = QuireDesk.NONE;

    public static void main(String[] args) {
        writing();
        feeding();
        taking();
        readingSound();
        faultsOfSigns();
        faultsOfLetters();
        faultsOfPlaces();
        faultsOfNumber();
        afterAFault();
        Check.end();
    }

    private static void writing() {
        String[] same = {"A2", "A2(-1)", "ZZ8", "A2 B2", "A-C2", "A-H2", "A2 B-D4 E4(s1) F-H4",
            "Y-BB2", "A4(p0,g0,k0,-1,c2,k2,s3,g3,k3,p4)", "A2 B4 C2", "A2(g2) B2(p1)",
            "A8(-5,-6,-7,-8)", "A4(c1,c4)", "A-C8 D6", "A2(k1,k1)", "A2(p0) B2 C2", "A2(p0) B-D2",
            "A2 B2 C2(p2)"};
        for (String text : same) {
            QuireDesk d = new QuireDesk();
            Check.is("read " + text, Check.read(d, text) > 0, true);
            Check.is("write " + text, Check.formula(d), text);
        }
        String[][] other = {{"A2   B2 C2", "A-C2"}, {"A-B2", "A2 B2"}, {"A-B2 C2 D4", "A-C2 D4"},
            {"A2 B-C2(", null}, {"A-B2 C-D2", "A-D2"}};
        for (String[] pair : other) {
            QuireDesk d = new QuireDesk();
            boolean sound = Check.read(d, pair[0]) > 0;
            Check.is("read " + pair[0], sound, pair[1] != null);
            Check.is("write " + pair[0], Check.formula(d), pair[1] == null ? "none" : pair[1]);
        }
        QuireDesk d = new QuireDesk();
        Check.is("write none", d.write(), NONE);
        Check.read(d, "A2");
        Check.is("write", d.write(), 2);
        Check.is("out -1", d.out(-1), NONE);
        Check.is("out far", d.out(Integer.MAX_VALUE), NONE);
        Check.is("out 0", d.out(0), 'A');
        Check.is("out 1", d.out(1), '2');
        Check.is("out 2", d.out(2), NONE);
        Check.read(d, "B4(-1)");
        Check.is("out stays until write", d.out(0), 'A');
        Check.is("write again", d.write(), 6);
        Check.is("out is new", d.out(0), 'B');
        longest();
        shorterThanBefore();
    }

    /** Nothing is left of a longer FOLDING. */
    private static void shorterThanBefore() {
        QuireDesk d = new QuireDesk();
        Check.read(d, "A8(g1,k2,p8) B4 C2(c1)");
        Check.formula(d);
        Check.read(d, "A2");
        Check.is("formula", Check.formula(d), "A2");
        Check.is("thing 2", d.thing(2, 0), NONE);
        Check.is("thing 4", d.thing(4, 0), NONE);
        Check.is("size 1", d.size(1), NONE);
        Check.is("place 3", d.place(0, 3), NONE);
        Check.is("ghosts", d.folding(2), 0);
        Check.read(d, "A4");
        Check.read(d, "A2(s2)");
        Check.is("formula", Check.formula(d), "A2(s2)");
        Check.is("thing 2", d.thing(2, 0), NONE);
    }

    /** 8 QUIRES, 32 GHOSTS, 30 THINGS of which each has an ITEM. */
    private static void longest() {
        StringBuilder s = new StringBuilder();
        String[] names = {"QQ", "RR", "SS", "TT", "VV", "XX", "YY", "ZZ"};
        for (int q = 0; q < 8; q++) {
            s.append(q > 0 ? " " : "").append(names[q]).append("6(s1,");
            s.append(q < 7 ? "g1,s2,p2," : "s2,").append("-3,-4,-5,-6)");
        }
        QuireDesk d = new QuireDesk();
        int n = Check.read(d, s.toString());
        Check.is("read the longest", n, 30);
        Check.is("ghosts of the longest", d.folding(2), 32);
        Check.is("write the longest", Check.formula(d), s.toString());
        Check.is("take the longest", d.take(), s.length());
        Check.is("read it again", d.read(), n);
    }

    private static void feeding() {
        QuireDesk d = new QuireDesk();
        Check.is("feed", d.feed(0x41322042, 0x34282d31, 0x2c732d00, 0xff008001, -1), 20);
        Check.is("end 13", d.end(13), 13);
        Check.is("end 14", d.end(14), NONE);
        Check.is("end -1", d.end(-1), NONE);
        Check.is("it stays", d.end(13), 13);
        Check.is("end 9", d.end(9), 9);
        Check.is("feed behind 9", d.feed(0x20202020, 0, 0, 0, 0), 29);
        Check.is("end 0", d.end(0), 0);
        for (int n = 20; n <= 400; n += 20) {
            Check.is("feed to " + n, d.feed(1, 2, 3, 4, 5), n);
        }
        Check.is("feed to 420", d.feed(1, 2, 3, 4, 5), NONE);
        Check.is("end 401", d.end(401), NONE);
        Check.is("end 381", d.end(381), 381);
        Check.is("feed to 401", d.feed(1, 2, 3, 4, 5), NONE);
        Check.is("end 380", d.end(380), 380);
        Check.is("feed to 400", d.feed(1, 2, 3, 4, 5), 400);
        Check.is("end far", d.end(Integer.MAX_VALUE), NONE);
        d.end(0);
        d.feed(0x41322042, 0x34282d31, 0x2c732029, 0, 0);
        Check.is("read", d.read(), NONE);
        Check.is("byte 10 is no digit", d.fault(1), 10);
        d.feed(0x41322042, 0x34282d31, 0x2c733329, 0, 0);
        d.end(12);
        Check.is("read sound", d.read(), 5);
        Check.is("formula", Check.formula(d), "A2 B4(-1,s3)");
        d.feed(0x41320000, 0, 0, 0, 0);
        Check.is("read zeros", d.read(), NONE);
        Check.is("a zero byte", d.fault(1), 2);
        d.feed(0xC1320000, 0, 0, 0, 0);
        d.end(2);
        Check.is("a high byte is no letter", d.read(), NONE);
        Check.is("its place", d.fault(1), 0);
    }

    private static void taking() {
        QuireDesk d = new QuireDesk();
        Check.tape(d, "XYZ");
        Check.is("take nothing", d.take(), 0);
        Check.is("the tape is that", d.end(1), NONE);
        Check.read(d, "A4(-2)");
        d.write();
        Check.tape(d, "XYZXYZXYZ");
        Check.is("take", d.take(), 6);
        Check.is("the tape is out", d.end(7), NONE);
        Check.is("out is there", d.out(0), 'A');
        Check.is("take again", d.take(), 6);
        Check.is("end 2", d.end(2), 2);
        Check.is("out stays", d.out(5), ')');
        Check.is("read", d.read(), 4);
        Check.is("the tape is empty", d.end(1), NONE);
        Check.is("formula", Check.formula(d), "A4");
    }

    private static void readingSound() {
        Check.sound("A2", 2);
        Check.sound("V8", 8);
        Check.sound("ZZ2", 2);
        Check.sound("Z2 AA2", 4);
        Check.sound("I2 K2", 4);
        Check.sound("T2 V2 X2 Y2", 8);
        Check.sound("A2     B2", 4);
        Check.sound("A-B2", 4);
        Check.sound("Z-AA2", 4);
        Check.sound("A2(-1)", 1);
        Check.sound("A2(g0)", 3);
        Check.sound("A2(g0,k0,p0,k0)", 6);
        Check.sound("A2(c1)", 3);
        Check.sound("A2(c1,k1)", 4);
        Check.sound("A2(s1,g1,k1)", 4);
        Check.sound("A2(s1,k2)", 3);
        Check.sound("A2(s2) B2(k1)", 5);
        Check.sound("A8(-1,-2,-3,-4)", 4);
        Check.sound("A4(-1,-2,-3)", 1);
        Check.sound("A8 B8 C8 D6", 30);
        Check.sound("A-C8 D4(g1,g1)", 30);
        Check.sound("A-G2 H2", 16);
        Check.sound("A-H2", 16);
        QuireDesk d = new QuireDesk();
        Check.is("read", Check.read(d, "B4(p0,-2,c3) C2(-2)"), 6);
        int[] about = {2, 6, 2, 6, 2};
        for (int what = 0; what < 5; what++) {
            Check.is("folding " + what, d.folding(what), about[what]);
        }
        int[] cells = {1, -2, 2, 4, 5, -2};
        for (int k = 0; k < 6; k++) {
            int q = k / 4;
            Check.is("place", d.place(q, k % 4 + 1), cells[k]);
            Check.is("page", d.where(q, k % 4 + 1, 0), 0);
            Check.is("head", d.where(q, k % 4 + 1, 1), 0);
        }
        Check.is("thing", d.thing(2, 1), 3);
        Check.is("a cancel does not hang", d.thing(3, 0), NONE);
    }

    private static void faultsOfSigns() {
        Check.faulty("", 1, 0);
        Check.faulty(" A2", 1, 0);
        Check.faulty("A2 ", 1, 3);
        Check.faulty("A2   ", 1, 5);
        Check.faulty("A", 1, 1);
        Check.faulty("J2", 1, 0);
        Check.faulty("U2", 1, 0);
        Check.faulty("W2", 1, 0);
        Check.faulty("a2", 1, 0);
        Check.faulty("2", 1, 0);
        Check.faulty("AB2", 1, 1);
        Check.faulty("AAA2", 1, 2);
        Check.faulty("A3", 1, 1);
        Check.faulty("A0", 1, 1);
        Check.faulty("A 2", 1, 1);
        Check.faulty("A22", 1, 2);
        Check.faulty("A2B2", 1, 2);
        Check.faulty("A2,B2", 1, 2);
        Check.faulty("A-", 1, 2);
        Check.faulty("A-2", 1, 2);
        Check.faulty("A--B2", 1, 2);
        Check.faulty("A-C", 1, 3);
        Check.faulty("A-C-E2", 1, 3);
        Check.faulty("A2(", 1, 3);
        Check.faulty("A2()", 1, 3);
        Check.faulty("A2(1", 1, 3);
        Check.faulty("A2( -1)", 1, 3);
        Check.faulty("A2(-", 1, 4);
        Check.faulty("A2(-x", 1, 4);
        Check.faulty("A2(-1", 1, 5);
        Check.faulty("A2(-1,", 1, 6);
        Check.faulty("A2(-1,)", 1, 6);
        Check.faulty("A2(-1 )", 1, 5);
        Check.faulty("A2(-1)(-2)", 1, 6);
        Check.faulty("A4(-12)", 1, 5);
        Check.faulty("A2(S1)", 1, 3);
        Check.faulty("A2(s1)x", 1, 6);
    }

    private static void faultsOfLetters() {
        Check.faulty("A2 A2", 2, 3);
        Check.faulty("A2 C2", 2, 3);
        Check.faulty("A2 BB2", 2, 3);
        Check.faulty("A2 C", 2, 3);
        Check.faulty("A2 CD2", 2, 3);
        Check.faulty("B2 A2", 2, 3);
        Check.faulty("ZZ2 A2", 2, 4);
        Check.faulty("ZZ2 AA2", 2, 4);
        Check.faulty("A-B2 B2", 2, 5);
        Check.faulty("A-A2", 2, 2);
        Check.faulty("B-A2", 2, 2);
        Check.faulty("AA-Z2", 2, 3);
        Check.faulty("A-B2(", 2, 4);
        Check.faulty("A-B2(-1)", 2, 4);
        Check.faulty("A-D8(", 2, 4);
    }

    private static void faultsOfPlaces() {
        Check.faulty("A2(-3)", 3, 4);
        Check.faulty("A8(s9)", 3, 4);
        Check.faulty("A2(-0)", 3, 4);
        Check.faulty("A2(s0)", 3, 4);
        Check.faulty("A2(c0)", 3, 4);
        Check.faulty("A2 B2(g0)", 3, 7);
        Check.faulty("A2 B2(k0)", 3, 7);
        Check.faulty("A2 B2(p0)", 3, 7);
        Check.faulty("A2(p3)", 3, 4);
        Check.faulty("A4(g2,g1)", 3, 7);
        Check.faulty("A4(g1,g0)", 3, 7);
        Check.faulty("A4(s2,-1)", 3, 7);
        Check.faulty("A4(-2,-2)", 3, 7);
        Check.faulty("A4(s2,s2)", 3, 7);
        Check.faulty("A4(c2,s2)", 3, 7);
        Check.faulty("A4(-2,c2)", 3, 7);
        Check.faulty("A4(g2,s2)", 3, 7);
        Check.faulty("A4(-2,g2)", 3, 7);
        Check.faulty("A4(-2,k2)", 3, 7);
        Check.faulty("A4(-2,p2)", 3, 7);
        Check.faulty("A4(s2,k2)", 3, 7);
        Check.faulty("A4(-9x", 3, 4);
    }

    private static void faultsOfNumber() {
        Check.faulty("A-H2 I2", 4, 5);
        Check.faulty("A-H2 A2", 2, 5);
        Check.faulty("A-I2", 4, 2);
        Check.faulty("A-AA2", 4, 2);
        Check.faulty("A2 B-I2", 4, 5);
        Check.faulty("A-H2 I-K2", 4, 5);
        Check.faulty("A8(-1,-2,-3,-4,-5)", 4, 15);
        Check.faulty("A8(-1,-2,-3,-4,-4)", 4, 15);
        Check.faulty("A4(-1,-2,-3,-4,-5)", 4, 15);
        Check.faulty("A8(-1,-2,-3,-4,-", 1, 16);
        Check.faulty("A8(-1,-2,-3,-4,-x", 1, 16);
        Check.faulty("A2(-1,-2)", 4, 0);
        Check.faulty("A2(g0,-1,-2)", 4, 0);
        Check.faulty("A2(-1,-2)x", 4, 0);
        Check.faulty("A2(-1,-2", 1, 8);
        Check.faulty("A2 B4(-1,-2,-3,-4)", 4, 3);
        Check.faulty("A8 B8 C8 D8", 4, 9);
        Check.faulty("A8 B8 C8 D6 E2", 4, 12);
        Check.faulty("A8 B8 C8 D6(g6)", 4, 9);
        Check.faulty("A8 B8 C8 D6(c6)", 4, 9);
        Check.faulty("A8 B8 C8 D6(c6", 1, 14);
        Check.faulty("A8 B8 C8 D8 F2", 4, 9);
        Check.faulty("A-D8", 4, 0);
        Check.faulty("A-B8 C-D8", 4, 5);
        StringBuilder many = new StringBuilder("A2(g1");
        for (int i = 0; i < 100; i++) {
            many.append(",g1");
        }
        Check.faulty(many + ")", 4, 0);
        Check.faulty(many + ",g3)", 3, many.length() + 2);
    }

    private static void afterAFault() {
        QuireDesk d = new QuireDesk();
        Check.is("read", Check.read(d, "C4(-2)"), 3);
        Check.is("read a fault", Check.read(d, "C4(-2) D4 E4(s5)"), NONE);
        Check.is("fault", d.fault(0), 3);
        Check.is("place", d.fault(1), 14);
        Check.is("fault 2", d.fault(2), NONE);
        Check.is("fault -1", d.fault(-1), NONE);
        Check.is("the folding stays", Check.formula(d), "C4(-2)");
        Check.is("the tape is empty", d.read(), NONE);
        Check.is("fault of the empty", d.fault(0), 1);
        Check.is("its place", d.fault(1), 0);
        Check.is("read sound", Check.read(d, "A2"), 2);
        Check.is("no fault", d.fault(0), 0);
        Check.is("no place", d.fault(1), NONE);
    }
}
