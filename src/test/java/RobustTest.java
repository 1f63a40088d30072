import java.lang.reflect.Array;
import java.lang.reflect.Field;
import java.lang.reflect.Modifier;
import java.util.ArrayDeque;
import java.util.Collections;
import java.util.Deque;
import java.util.IdentityHashMap;
import java.util.Random;
import java.util.Set;

/** No call throws whatever it is given, no call depends on what was reckoned before. */
public final class RobustTest {
    private static long elements = 0;

    public static void main(String[] args) throws Exception {
        for (int seed = 0; seed < 400; seed++) {
            used(seed, 512);
            for (int row = 0; row < 3; row++) {
                asNew(used(seed, 200), row);
            }
        }
        usedOnAndOn();
        betweenTwoRows();
        room();
        Check.end();
    }

    /** A desk behind a run of calls. */
    private static QuireDesk used(int seed, int calls) {
        Random r = new Random(seed);
        QuireDesk d = new QuireDesk();
        for (int i = 0; i < calls; i++) {
            call(d, r, seed % 4 == 0);
        }
        return d;
    }

    private static int number(Random r, boolean wild) {
        if (wild && r.nextInt(4) == 0) {
            int[] odd = {Integer.MIN_VALUE, Integer.MAX_VALUE, -1, -2, 30, 31, 1 << 16};
            return odd[r.nextInt(odd.length)];
        }
        return r.nextInt(4) == 0 ? r.nextInt(40) - 3 : r.nextInt(5);
    }

    private static void call(QuireDesk d, Random r, boolean wild) {
        int a = number(r, wild);
        int b = number(r, wild);
        int c = number(r, wild);
        int e = number(r, wild);
        int row = wild ? a : r.nextInt(2);
        switch (r.nextInt(34)) {
            case 0: case 1: case 2: case 3: case 4:
                Check.is("put", d.put(row, b, r.nextInt(3) > 0 ? 1 : c) >= -1, true);
                break;
            case 5: d.gone(row, b); break;
            case 6: case 7: case 8: d.mark(row, b, r.nextInt(8), e); break;
            case 9: d.tear(row, b, c); break;
            case 10: d.look(row, b, c); break;
            case 11: d.about(row, b); break;
            case 12: d.rule(row, 2 + r.nextInt(4), c); break;
            case 13: d.ways(row); break;
            case 14: case 15: d.pick(row, wild ? r.nextLong() : r.nextInt(9)); break;
            case 16: d.fewest(row); break;
            case 17: d.why(row); break;
            case 18: d.folding(a); break;
            case 19: d.size(a); break;
            case 20: d.place(a, b); break;
            case 21: d.thing(a, b); break;
            case 22: d.where(a, b, c); break;
            case 23: d.write(); break;
            case 24: d.out(a); break;
            case 25: d.feed(r.nextInt(), 0x41322042, 0x34282d31, r.nextInt(), r.nextInt()); break;
            case 26: d.end(a); break;
            case 27: d.take(); break;
            case 28: d.read(); break;
            case 29: d.fault(a); break;
            case 30: d.copy(a); break;
            case 31: d.against(a, b); break;
            case 32: d.differs(a, b, c, e); break;
            default: d.ideal(a, b); break;
        }
    }

    /** A ROW is reckoned as the same ROW of a new desk is. */
    private static void asNew(QuireDesk d, int row) {
        QuireDesk fresh = new QuireDesk();
        int things = d.about(row, 0);
        for (int i = 0; i < things; i++) {
            fresh.put(0, i, d.look(row, i, QuireDesk.NONE));
            for (int m = 0; m < 7; m++) {
                fresh.mark(0, i, m, d.look(row, i, m));
            }
        }
        for (int what = 2; what <= 5; what++) {
            fresh.rule(0, what, d.about(row, what));
        }
        Check.is("why as new", d.why(row), fresh.why(0));
        Check.is("ways as new", d.ways(row), fresh.ways(0));
        int fewest = d.fewest(row);
        Check.is("fewest as new", fewest, fresh.fewest(0));
        if (fewest != QuireDesk.NONE) {
            Check.is("formula as new", Check.formula(d), Check.formula(fresh));
        }
    }

    /** Far behind its 512 calls a desk still ends each of them, and in its usual time. */
    private static void usedOnAndOn() {
        QuireDesk d = new QuireDesk();
        QuireDesk fresh = new QuireDesk();
        for (int i = 0; i < 30; i++) {
            d.put(0, i, 1);
            fresh.put(0, i, 1);
        }
        long ways = fresh.ways(0);
        for (int call = 0; call < 2200000; call++) {
            d.ways(1 + call % 2);
        }
        Check.is("ways of thirty", d.ways(0), ways);
        Check.is("why of thirty", d.why(0), QuireDesk.NONE);
    }

    /** What is known of one ROW is never taken for that of another, however many lie between. */
    private static void betweenTwoRows() {
        long[] due = {leaves(new QuireDesk(), 0, 2).ways(0), leaves(new QuireDesk(), 0, 3).ways(0)};
        Check.is("they are unlike", due[0] != due[1], true);
        for (int between = 0; between < 1200; between += between < 480 ? 40 : 1) {
            QuireDesk d = leaves(leaves(new QuireDesk(), 0, 2), 1, 3);
            Check.is("ways of the one", d.ways(0), due[0]);
            for (int k = 0; k < between; k++) {
                d.ways(2 + k % 2);
            }
            Check.is("ways of the other behind " + between, d.ways(1), due[1]);
        }
    }

    /** Twelve leaves in a ROW, with one NUMBER that is known. */
    private static QuireDesk leaves(QuireDesk d, int row, int number) {
        for (int i = 0; i < 12; i++) {
            d.put(row, i, 1);
        }
        d.mark(row, 11, 1, number);
        return d;
    }

    /** A desk is small beside the room of 600,000 objects and 7.3 million elements. */
    private static void room() throws Exception {
        Set<Object> seen = Collections.newSetFromMap(new IdentityHashMap<>());
        Deque<Object> open = new ArrayDeque<>();
        open.add(new QuireDesk());
        while (!open.isEmpty()) {
            Object o = open.poll();
            if (seen.add(o)) {
                if (o.getClass().isArray()) {
                    elements += Array.getLength(o);
                    for (int i = 0; o instanceof Object[] && i < Array.getLength(o); i++) {
                        open.add(Array.get(o, i));
                    }
                } else {
                    fields(o, open);
                }
            }
        }
        Check.is("few objects: " + seen.size(), seen.size() < 120, true);
        Check.is("few elements: " + elements, elements < 30000, true);
        System.out.println("a desk: " + seen.size() + " objects, " + elements + " elements");
    }

    private static void fields(Object o, Deque<Object> open) throws Exception {
        for (Field f : o.getClass().getDeclaredFields()) {
            if (!Modifier.isStatic(f.getModifiers())) {
                elements++;
                f.setAccessible(true);
                if (!f.getType().isPrimitive() && f.get(o) != null) {
                    open.add(f.get(o));
                }
            }
        }
    }
}
