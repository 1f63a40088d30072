import java.util.ArrayList;
import java.util.List;

/** What the tests share: telling wrong answers, and words for runs of calls. */
final class Check {
    private static int wrong = 0;
    private static int told = 0;

    private Check() {
    }

    static void is(String what, long got, long want) {
        told++;
        if (got != want) {
            wrong++;
            if (wrong <= 40) {
                System.out.println(what + " answered " + got + ", due is " + want);
            }
        }
    }

    static void is(String what, boolean got, boolean want) {
        is(what, got ? 1 : 0, want ? 1 : 0);
    }

    static void is(String what, String got, String want) {
        told++;
        if (!got.equals(want)) {
            wrong++;
            if (wrong <= 40) {
                System.out.println(what + " answered \"" + got + "\", due is \"" + want + "\"");
            }
        }
    }

    /** Ends the test: exit code 1 if an answer was wrong, or none was asked. */
    static void end() {
        System.out.println(told + " answers, " + wrong + " wrong");
        if (wrong != 0 || told == 0) {
            System.exit(1);
        }
    }

    /** THINGS of some KINDS at the end of a ROW: L, S, P(asted), C, T (plate). */
    static void things(QuireDesk d, int row, String kinds) {
        for (int i = 0; i < kinds.length(); i++) {
            d.put(row, d.about(row, 0), "LSPCT".indexOf(kinds.charAt(i)) + 1);
        }
    }

    /** Puts a text on the TAPE, behind nothing. */
    static void tape(QuireDesk d, String text) {
        d.end(0);
        for (int i = 0; i < text.length(); i += 20) {
            int[] five = new int[5];
            for (int k = 0; k < 20; k++) {
                int sign = i + k < text.length() ? text.charAt(i + k) : 0;
                five[k / 4] = five[k / 4] << 8 | sign;
            }
            d.feed(five[0], five[1], five[2], five[3], five[4]);
        }
        d.end(text.length());
    }

    static int read(QuireDesk d, String text) {
        tape(d, text);
        return d.read();
    }

    /** The FORMULA of THE FOLDING, or "none". */
    static String formula(QuireDesk d) {
        int n = d.write();
        if (n == QuireDesk.NONE) {
            return "none";
        }
        StringBuilder s = new StringBuilder();
        for (int i = 0; i < n; i++) {
            s.append((char) d.out(i));
        }
        is("out behind the last", d.out(n), QuireDesk.NONE);
        return s.toString();
    }

    /** Reads a text, asks for what is due: THINGS, or FAULT and place. */
    static void sound(String text, int things) {
        QuireDesk d = new QuireDesk();
        is("read " + text, read(d, text), things);
        is("fault of " + text, d.fault(0), 0);
        is("place of " + text, d.fault(1), QuireDesk.NONE);
    }

    static void faulty(String text, int fault, int at) {
        QuireDesk d = new QuireDesk();
        is("read " + text, read(d, text), QuireDesk.NONE);
        is("fault of " + text, d.fault(0), fault);
        is("place of " + text, d.fault(1), at);
        is("folding after " + text, d.folding(0), 0);
        is("tape after " + text, d.end(1), QuireDesk.NONE);
    }

    static List<Integer> list(int... numbers) {
        List<Integer> l = new ArrayList<>();
        for (int n : numbers) {
            l.add(n);
        }
        return l;
    }
}
