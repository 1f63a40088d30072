import java.util.ArrayList;
import java.util.List;
import java.util.function.Consumer;
import java.util.function.Predicate;
import java.util.function.ToLongFunction;

/**
 * A run of calls that can be made again on new desks. An object is promised for 512 calls only,
 * and some of what it holds is seen only by calls that change it: so each look at what a run has
 * left is taken on a desk of its own.
 */
final class Run {
    private static final int NONE = QuireDesk.NONE;
    private static final int ROWS = 6;
    private static final int TAPE = 400;
    /** How many beginnings of the TAPE are read, to see what bytes it has. */
    private static final int PREFIXES = 24;

    private final List<Consumer<QuireDesk>> calls = new ArrayList<>();

    /** This run and a call more; this one stays as it is. */
    Run then(Consumer<QuireDesk> call) {
        Run longer = new Run();
        longer.calls.addAll(calls);
        longer.calls.add(call);
        return longer;
    }

    Run things(int row, String kinds) {
        return then(d -> Check.things(d, row, kinds));
    }

    Run tape(String text) {
        return then(d -> Check.tape(d, text));
    }

    Run read(String text) {
        return then(d -> Check.read(d, text));
    }

    QuireDesk desk() {
        QuireDesk d = new QuireDesk();
        for (Consumer<QuireDesk> call : calls) {
            call.accept(d);
        }
        return d;
    }

    /** The call answers NONE, and all that can be seen of the desk stays as it was. */
    void refuses(String name, ToLongFunction<QuireDesk> call) {
        keeps(name, call, NONE);
    }

    /** The call answers false, and all that can be seen of the desk stays as it was. */
    void denies(String name, Predicate<QuireDesk> call) {
        keeps(name, d -> call.test(d) ? 1 : 0, 0);
    }

    /** The call answers what is due, and all that can be seen of the desk stays as it was. */
    void keeps(String name, ToLongFunction<QuireDesk> call, long due) {
        Check.is(name, call.applyAsLong(desk()), due);
        same(name, seen(), then(call::applyAsLong).seen());
    }

    private static void same(String name, List<String> before, List<String> after) {
        Check.is(name + ": how much is seen", after.size(), before.size());
        for (int i = 0; i < before.size() && i < after.size(); i++) {
            Check.is(name + ": what stays", after.get(i), before.get(i));
        }
    }

    /** All that can be seen of a desk behind this run, a line for each part. */
    List<String> seen() {
        List<String> all = new ArrayList<>();
        for (int row = 0; row < ROWS; row++) {
            all.add("row " + row + rowSeen(row) + " torn" + tornSeen(row));
        }
        all.add("folding" + foldingSeen() + " things" + thingsSeen() + " where" + whereSeen());
        all.add("formula " + Check.formula(desk()));
        all.add("out " + outSeen());
        all.add("fault " + faultSeen(desk()));
        int length = tapeLength();
        all.add("tape " + length);
        for (int n = Math.max(0, length - PREFIXES); n <= length; n++) {
            all.add("tape to " + n + ": " + tapeSeen(n));
        }
        for (int k = 0; k < 4; k++) {
            all.add("kept " + k + ": " + keptSeen(k));
        }
        return all;
    }

    private String rowSeen(int row) {
        QuireDesk d = desk();
        StringBuilder s = new StringBuilder();
        for (int what = 0; what < 6; what++) {
            s.append(' ').append(d.about(row, what));
        }
        int n = d.about(row, 0);
        for (int i = 0; i < n; i++) {
            s.append(" :");
            for (int what = NONE; what < 7; what++) {
                s.append(' ').append(d.look(row, i, what));
            }
        }
        return s.toString();
    }

    /** A THING that is torn to 7 MARKS has as many as before. */
    private String tornSeen(int row) {
        QuireDesk d = desk();
        StringBuilder s = new StringBuilder();
        int n = d.about(row, 0);
        for (int i = 0; i < n; i++) {
            s.append(' ').append(d.tear(row, i, 7));
        }
        return s.toString();
    }

    private String foldingSeen() {
        QuireDesk d = desk();
        StringBuilder s = new StringBuilder();
        for (int what = 0; what < 5; what++) {
            s.append(' ').append(d.folding(what));
        }
        int quires = d.folding(0);
        for (int q = 0; q < quires; q++) {
            int size = d.size(q);
            s.append(" : ").append(size);
            for (int p = 1; p <= size; p++) {
                s.append(' ').append(d.place(q, p));
            }
        }
        return s.toString();
    }

    private String thingsSeen() {
        QuireDesk d = desk();
        StringBuilder s = new StringBuilder();
        int n = d.folding(1);
        for (int i = 0; i < n; i++) {
            s.append(" : ").append(d.thing(i, 0)).append(' ').append(d.thing(i, 1));
            s.append(' ').append(d.thing(i, 2));
        }
        return s.toString();
    }

    private String whereSeen() {
        QuireDesk d = desk();
        StringBuilder s = new StringBuilder();
        int quires = d.folding(0);
        for (int q = 0; q < quires; q++) {
            int size = d.size(q);
            for (int p = 1; p <= size; p++) {
                s.append(' ').append(d.where(q, p, 0)).append('/').append(d.where(q, p, 1));
            }
        }
        return s.toString();
    }

    private String outSeen() {
        QuireDesk d = desk();
        StringBuilder s = new StringBuilder();
        for (int i = 0; i < TAPE && d.out(i) != NONE; i++) {
            s.append((char) d.out(i));
        }
        return s.toString();
    }

    private static String faultSeen(QuireDesk d) {
        return d.fault(0) + " at " + d.fault(1);
    }

    int tapeLength() {
        int more = desk().feed(0, 0, 0, 0, 0);
        if (more != NONE) {
            return more - 20;
        }
        QuireDesk d = desk();
        for (int n = TAPE; n > 380; n--) {
            if (d.end(n) == n) {
                return n;
            }
        }
        return NONE;
    }

    private String tapeSeen(int n) {
        QuireDesk d = desk();
        d.end(n);
        return d.read() + " fault " + faultSeen(d);
    }

    /** What is kept is seen whole, if it is joined with itself. */
    private String keptSeen(int k) {
        QuireDesk d = desk();
        int things = d.ideal(k, k);
        if (things == NONE) {
            return "none";
        }
        return things + " as " + Check.formula(d) + " of " + d.folding(4);
    }
}
