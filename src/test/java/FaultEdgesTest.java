import java.util.Random;

/** Promises 23 and 24, the FAULTS of term 3: all short texts, and long ones with slips. */
public final class FaultEdgesTest {
    private static final int NONE = QuireDesk.NONE;
    /** Calls that one text takes at most, beside those for its bytes and its FORMULA. */
    private static final int CALLS_OF_A_TEXT = 60;

    private static QuireDesk desk = new QuireDesk();
    private static int calls = 0;

    public static void main(String[] args) {
        theWords();
        shortTexts("", "AB24- (s1", 5);
        shortTexts("A4(", "-skg0145,)", 5);
        shortTexts("A2 B4(", "-ck05,)", 5);
        shortTexts("A-", "ABJ-2( )", 4);
        shortTexts("ZZ2 ", "AZ-2", 4);
        shortTexts("A-G2 H", "I-2 H", 5);
        shortTexts("A2 B2 C2 D2 E2 F2 G2 H2", "I-2 HJ", 4);
        shortTexts("A8(-1,-2,-3,-", "4578-s,)", 6);
        shortTexts("A-C8 D", "4681(pc,) E", 5);
        slips();
        everySign();
        Check.end();
    }

    /** Each FAULT that the document names, at its edge and just ahead of it. */
    private static void theWords() {
        whatCantStand();
        letters();
        places();
        tooMany();
        theFirstOfTwo();
    }

    private static void sound(String text, int things) {
        compare(text);
        Check.sound(text, things);
    }

    private static void faulty(String text, int fault, int at) {
        compare(text);
        Check.faulty(text, fault, at);
    }

    /** "1 what can't stand there (the end, too: the text's length)". */
    private static void whatCantStand() {
        faulty("", 1, 0);
        faulty(" ", 1, 0);
        faulty("A", 1, 1);
        faulty("AA", 1, 2);
        faulty("A-", 1, 2);
        faulty("A-B", 1, 3);
        faulty("A2 ", 1, 3);
        faulty("A2(", 1, 3);
        faulty("A2(s", 1, 4);
        faulty("A2(s1", 1, 5);
        faulty("A2(s1,", 1, 6);
        faulty("A2 B", 1, 4);
        for (char sign : "JUWabz@[0123456789-(),".toCharArray()) {
            faulty(sign + "2", 1, 0);
            faulty("A2 " + sign + "2", 1, 3);
            faulty("A-" + sign + "2", 1, 2);
        }
        for (char sign : "013579BZ (),".toCharArray()) {
            faulty("A" + sign, 1, 1);
            faulty("A-B" + (sign == 'B' ? 'C' : sign), 1, 3);
        }
        for (char sign : "0123456789 AabSCGKPx(),".toCharArray()) {
            faulty("A2(" + sign, 1, 3);
        }
        for (char sign : " A-sckgp(),".toCharArray()) {
            faulty("A2(s" + sign, 1, 4);
        }
        for (char sign : " A-s0129(".toCharArray()) {
            faulty("A2(s1" + sign, 1, 5);
        }
        for (char sign : "A-s0129(),".toCharArray()) {
            faulty("A2(s1)" + sign, 1, 6);
        }
        sound("A2    B2", 4);
        faulty("A2\tB2", 1, 2);
        faulty("A2\nB2", 1, 2);
    }

    /** "2 (at the LETTERS) not those right behind the ones ahead" and the two others. */
    private static void letters() {
        for (int n = 1; n <= 46; n++) {
            String one = Oracle.letters(n);
            for (int k = 1; k <= 46; k++) {
                String other = Oracle.letters(k);
                if (k == n + 1) {
                    sound(one + "2 " + other + "2", 4);
                } else {
                    faulty(one + "2 " + other + "2", 2, one.length() + 2);
                }
                if (k <= n) {
                    faulty(one + "-" + other + "2", 2, one.length() + 1);
                } else if (k <= n + 7) {
                    sound(one + "-" + other + "2", 2 * (k - n + 1));
                } else {
                    faulty(one + "-" + other + "2", 4, one.length() + 1);
                }
            }
        }
        faulty("A-B2 B2", 2, 5);
        faulty("A-B2 D2", 2, 5);
        sound("A-B2 C2", 6);
        faulty("A-B2(s1)", 2, 4);
        faulty("A2 B-C4(", 2, 7);
        faulty("A-H2(", 2, 4);
    }

    /** "3 (at the digit) a PLACE above SIZE, or 0 (..), or one that can't be there". */
    private static void places() {
        for (int size = 2; size <= 8; size += 2) {
            for (char sign : "-scgkp".toCharArray()) {
                int things = size + (sign == '-' ? -1 : sign == 's' ? 0 : 1);
                for (int p = 0; p <= 9; p++) {
                    boolean loose = "gkp".indexOf(sign) >= 0;
                    String item = size + "(" + sign + p + ")";
                    if (p > size || (p == 0 && !loose)) {
                        faulty("A" + item, 3, 4);
                        faulty("A2 B" + item, 3, 7);
                    } else {
                        sound("A" + item, things);
                        if (p > 0) {
                            sound("A2 B" + item, things + 2);
                        } else {
                            faulty("A2 B" + item, 3, 7);
                        }
                    }
                }
            }
        }
        String signs = "-scgkp";
        for (char a : signs.toCharArray()) {
            for (char b : signs.toCharArray()) {
                boolean first = "-sc".indexOf(b) >= 0;
                boolean cant = first || a == '-' || (a == 's' && b == 'k');
                String same = "A8(" + a + "3," + b + "3)";
                compare(same);
                Check.is(same, faultOf(same), cant ? 3 : 0);
                Check.is("back " + a + b, faultOf("A8(" + a + "3," + b + "2)"), 3);
                Check.is("on " + a + b, faultOf("A8(" + a + "3," + b + "4)"), 0);
                String between = "A8(" + a + "3,g3," + b + "3)";
                boolean cantThen = first || a == '-';
                Check.is(between, faultOf(between), cantThen ? 3 : 0);
            }
        }
    }

    private static int faultOf(String text) {
        QuireDesk d = new QuireDesk();
        Check.read(d, text);
        return d.fault(0);
    }

    /** "4 .. a 9th QUIRE; .. a 5th GHOST in a QUIRE; .. no THING in it .., or the 31st THING". */
    private static void tooMany() {
        sound("A-H2", 16);
        faulty("A-I2", 4, 2);
        sound("A2 B2 C2 D2 E2 F2 G2 H2", 16);
        faulty("A2 B2 C2 D2 E2 F2 G2 H2 I2", 4, 24);
        String eight = "A2 B2 C2 D2 E2 F2 G2 H2";
        faulty(eight + " ", 1, 24);
        faulty(eight + "  x", 1, 25);
        faulty(eight + " J2", 1, 24);
        faulty(eight + " H2", 2, 24);
        faulty(eight + " K2", 2, 24);
        faulty(eight + "   I", 4, 26);
        faulty("A-H2 I", 4, 5);
        faulty("A-H2 II2", 2, 5);
        faulty("A-H2 I-K2", 4, 5);
        faulty("A-G2 H-I2", 4, 7);
        sound("A-F2 G-H2", 16);
        sound("A6(-1,-2,-3,-4)", 2);
        faulty("A6(-1,-2,-3,-4,-5)", 4, 15);
        faulty("A6(-1,-2,-3,-4,-", 1, 16);
        faulty("A6(-1,-2,-3,-4,-)", 1, 16);
        faulty("A6(-1,-2,-3,-4,-5", 4, 15);
        sound("A6(-1,-2,-3,-4) B8(-1,-2,-3,-4)", 6);
        sound("A2(-1)", 1);
        faulty("A2(-1,-2)", 4, 0);
        sound("A4(-1,-2,-3)", 1);
        faulty("A4(-1,-2,-3,-4)", 4, 0);
        faulty("A4(p0,-1,-2,-3,-4)", 4, 0);
        faulty("A2  B4(-1,-2,-3,-4)", 4, 4);
        sound("A-C8 D6", 30);
        faulty("A-C8 D8", 4, 5);
        faulty("A-C8 D6(p1)", 4, 5);
        sound("A-C8 D6(-1,p2)", 30);
        faulty("A-C8 D6(-1,p2,p2)", 4, 5);
        sound("A-C8 D4(c1,c4)", 30);
        faulty("A-C8 D4(c1,c3,c4)", 4, 5);
        faulty("A-D8", 4, 0);
        faulty("A-H4", 4, 0);
        sound("A-G4", 28);
    }

    /** "the first by its place, at one place the least", a QUIRE's own last. */
    private static void theFirstOfTwo() {
        faulty("A2 C3", 2, 3);
        faulty("A2 CJ", 2, 3);
        faulty("A-H2 A9", 2, 5);
        faulty("B-A9", 2, 2);
        faulty("A-I9", 4, 2);
        faulty("A-B2(9", 2, 4);
        faulty("A2(s9x", 3, 4);
        faulty("A2(-9,-9", 3, 4);
        faulty("A8(-1,-2,-3,-4,-1)", 4, 15);
        faulty("A2(-1,-2,s1)", 3, 10);
        faulty("A2(-1,-2,", 1, 9);
        faulty("A2(-1,-2) A2", 4, 0);
        faulty("A2(-1,-2)B2", 4, 0);
        faulty("A-D8 F2", 4, 0);
        faulty("A-D8(", 2, 4);
        faulty("A-C8 D8(g9", 3, 9);
        faulty("A-C8 D8x", 4, 5);
        faulty("A-C8 D8 ", 4, 5);
    }

    /** All texts that go on from a beginning with some signs, up to a length. */
    private static void shortTexts(String beginning, String signs, int length) {
        compare(beginning);
        if (length > 0) {
            for (char sign : signs.toCharArray()) {
                shortTexts(beginning + sign, signs, length - 1);
            }
        }
    }

    /** FORMULAS of all sorts, with none, one or two slips. */
    private static void slips() {
        Random r = new Random(23);
        for (int n = 0; n < 30000; n++) {
            String text = formula(r);
            for (int k = r.nextInt(3); k > 0 && !text.isEmpty(); k--) {
                text = slip(text, r);
            }
            compare(text);
        }
    }

    static String formula(Random r) {
        StringBuilder s = new StringBuilder();
        int letter = 1 + r.nextInt(r.nextInt(3) == 0 ? 46 : 10);
        int quires = 1 + r.nextInt(r.nextInt(4) == 0 ? 9 : 4);
        for (int q = 0; q < quires && letter <= 46; q++) {
            s.append(q == 0 ? "" : r.nextInt(8) == 0 ? "  " : " ").append(Oracle.letters(letter));
            if (r.nextInt(5) == 0 && letter < 45) {
                letter += 1 + r.nextInt(2);
                s.append('-').append(Oracle.letters(letter)).append(2 * r.nextInt(4) + 2);
            } else {
                int size = 2 * r.nextInt(4) + 2;
                s.append(size).append(items(r, size, q == 0));
            }
            letter++;
        }
        return s.toString();
    }

    static String items(Random r, int size, boolean first) {
        StringBuilder s = new StringBuilder();
        int often = 1 + r.nextInt(4);
        for (int p = first ? 0 : 1; p <= size; p++) {
            char head = "-sc....".charAt(r.nextInt(7));
            if (p > 0 && head != '.' && r.nextInt(often) == 0) {
                s.append(',').append(head).append(p);
            }
            while (head != '-' && r.nextInt(5) == 0) {
                s.append(',').append("gkp".charAt(r.nextInt(3))).append(p);
            }
        }
        return s.length() == 0 ? "" : "(" + s.substring(1) + ")";
    }

    static String slip(String text, Random r) {
        String signs = "ABCHIJKZ 0123456789-(),scgkpx";
        int at = r.nextInt(text.length() + 1);
        String sign = "" + signs.charAt(r.nextInt(signs.length()));
        int how = r.nextInt(4);
        String rest = text.substring(Math.min(text.length(), how == 0 ? at : at + 1));
        return text.substring(0, at) + (how == 1 ? "" : sign) + rest;
    }

    /** Each of the 256 bytes, at each place of a text. */
    private static void everySign() {
        String text = "A4(s1,g1) B-C2";
        for (int at = 0; at < text.length(); at++) {
            for (int sign = 0; sign < 256; sign++) {
                compare(text.substring(0, at) + (char) sign + text.substring(at + 1));
            }
        }
    }

    /** What read() makes of a text, and what it says of its FAULT. */
    private static void compare(String text) {
        if (text.length() > 400) {
            return;
        }
        calls += CALLS_OF_A_TEXT;
        if (calls > 512) {
            desk = new QuireDesk();
            calls = CALLS_OF_A_TEXT;
        }
        ReadOracle due = new ReadOracle(text);
        int things = Check.read(desk, text);
        Check.is("fault of " + text, desk.fault(0), due.fault);
        Check.is("place of " + text, desk.fault(1), due.at);
        Check.is("read " + text, things, due.fault == 0 ? due.row.things.size() : NONE);
        if (due.fault == 0) {
            Check.is("letter of " + text, desk.folding(4), due.row.letter);
            QuireDesk d = new QuireDesk();
            Check.read(d, text);
            Check.is("formula of " + text, Check.formula(d), due.row.formula(due.fold));
            calls++;
        }
    }
}
