/** Promises 1 to 8: a new object, put, gone, mark, tear, look, about, rule. */
public final class RowsTest {
    private static final int NONE = QuireDesk.NONE;

    public static void main(String[] args) {
        newObject();
        putting();
        going();
        marking();
        tearing();
        looking();
        ruling();
        Check.end();
    }

    private static void newObject() {
        QuireDesk d = new QuireDesk();
        int[] first = {0, 0, 15, 8, 1, 0};
        for (int row = 0; row < 6; row++) {
            for (int what = 0; what < 6; what++) {
                Check.is("about at first", d.about(row, what), first[what]);
            }
            Check.is("ways at first", d.ways(row), 0);
            Check.is("why at first", d.why(row), 0);
        }
        for (int what = 0; what < 5; what++) {
            Check.is("folding at first", d.folding(what), 0);
        }
        for (int k = 0; k < 4; k++) {
            Check.is("none kept", d.against(k, k), NONE);
        }
        Check.is("tape at first", d.end(1), NONE);
        Check.is("out at first", d.out(0), NONE);
        Check.is("fault at first", d.fault(0), 0);
        Check.is("fault's place at first", d.fault(1), NONE);
        Check.is("NONE", QuireDesk.NONE, -1);
    }

    private static void putting() {
        QuireDesk d = new QuireDesk();
        Check.is("put row 6", d.put(6, 0, 1), NONE);
        Check.is("put row -1", d.put(-1, 0, 1), NONE);
        Check.is("put row far", d.put(Integer.MAX_VALUE, 0, 1), NONE);
        Check.is("put at 1", d.put(5, 1, 1), NONE);
        Check.is("put at -1", d.put(5, -1, 1), NONE);
        Check.is("put at low", d.put(5, Integer.MIN_VALUE, 1), NONE);
        Check.is("put kind 0", d.put(5, 0, 0), NONE);
        Check.is("put kind 6", d.put(5, 0, 6), NONE);
        Check.is("nothing is done", d.about(5, 0), 0);
        for (int kind = 1; kind <= 5; kind++) {
            Check.is("put kind " + kind, d.put(5, 0, kind), kind);
        }
        for (int i = 0; i < 5; i++) {
            Check.is("kinds turned", d.look(5, i, NONE), 5 - i);
        }
        d.mark(5, 2, 0, 46);
        d.tear(5, 2, 3);
        Check.is("put in the middle", d.put(5, 2, 1), 6);
        Check.is("marks go along", d.look(5, 3, 0), 46);
        Check.is("the new one has none", d.look(5, 2, 0), 0);
        Check.is("the new one is whole", d.tear(5, 2, 9), 7);
        Check.is("tears go along", d.tear(5, 3, 9), 3);
        for (int n = 7; n <= 30; n++) {
            Check.is("put more", d.put(5, n - 1, 1), n);
        }
        Check.is("put the 31st", d.put(5, 0, 1), NONE);
        Check.is("put the 31st behind", d.put(5, 30, 1), NONE);
        Check.is("still 30", d.about(5, 0), 30);
        Check.is("all that hang", d.about(5, 1), 27);
        Check.is("other rows are empty", d.about(4, 0), 0);
    }

    private static void going() {
        QuireDesk d = new QuireDesk();
        Check.things(d, 0, "LSPCT");
        d.mark(0, 3, 3, 9999);
        d.tear(0, 4, 2);
        Check.is("gone -1", d.gone(0, -1), NONE);
        Check.is("gone 5", d.gone(0, 5), NONE);
        Check.is("gone row", d.gone(6, 0), NONE);
        Check.is("gone row -1", d.gone(-1, 0), NONE);
        Check.is("gone 1", d.gone(0, 1), 4);
        Check.is("kind behind", d.look(0, 1, NONE), 3);
        Check.is("mark behind", d.look(0, 2, 3), 9999);
        Check.is("tear behind", d.tear(0, 3, 7), 2);
        Check.is("gone the last", d.gone(0, 3), 3);
        Check.is("no such any more", d.look(0, 3, NONE), NONE);
        d.put(0, 3, 1);
        Check.is("a new one in its place is whole", d.tear(0, 3, 7), 7);
        for (int n = 3; n >= 0; n--) {
            Check.is("gone the first", d.gone(0, 0), n);
        }
        Check.is("gone of none", d.gone(0, 0), NONE);
        Check.things(d, 1, "TL");
        Check.is("one hangs", d.about(1, 1), 1);
        d.gone(1, 1);
        Check.is("none hangs", d.about(1, 1), 0);
    }

    private static void marking() {
        QuireDesk d = new QuireDesk();
        Check.things(d, 3, "LT");
        int[] top = {46, 8, 999, 9999, 9999, 9, 2};
        for (int what = 0; what < 7; what++) {
            Check.is("mark top", d.mark(3, 1, what, top[what]), true);
            Check.is("look top", d.look(3, 1, what), top[what]);
            Check.is("mark above", d.mark(3, 1, what, top[what] + 1), false);
            Check.is("mark below", d.mark(3, 1, what, -1), false);
            Check.is("it stays", d.look(3, 1, what), top[what]);
            Check.is("mark 1", d.mark(3, 1, what, 1), true);
            Check.is("mark 0", d.mark(3, 1, what, 0), true);
            Check.is("look 0", d.look(3, 1, what), 0);
            Check.is("other thing", d.look(3, 0, what), 0);
        }
        Check.is("mark 7", d.mark(3, 0, 7, 1), false);
        Check.is("mark -1", d.mark(3, 0, -1, 1), false);
        Check.is("mark thing 2", d.mark(3, 2, 0, 1), false);
        Check.is("mark thing -1", d.mark(3, -1, 0, 1), false);
        Check.is("mark row 6", d.mark(6, 0, 0, 1), false);
        Check.is("mark row -1", d.mark(-1, 0, 0, 1), false);
    }

    private static void tearing() {
        QuireDesk d = new QuireDesk();
        Check.things(d, 0, "L");
        for (int what = 0; what < 7; what++) {
            d.mark(0, 0, what, 2);
        }
        Check.is("tear -1", d.tear(0, 0, -1), NONE);
        Check.is("tear thing 1", d.tear(0, 1, 3), NONE);
        Check.is("tear row 6", d.tear(6, 0, 3), NONE);
        Check.is("tear far", d.tear(0, 0, Integer.MAX_VALUE), 7);
        Check.is("tear 7", d.tear(0, 0, 7), 7);
        Check.is("all are there", d.look(0, 0, 6), 2);
        for (int n = 6; n >= 0; n--) {
            Check.is("tear " + n, d.tear(0, 0, n), n);
            Check.is("torn off", d.look(0, 0, n), 0);
            Check.is("can't be told", d.mark(0, 0, n, 1), false);
            Check.is("not even 0", d.mark(0, 0, n, 0), false);
            if (n > 0) {
                Check.is("still there", d.look(0, 0, n - 1), 2);
                Check.is("can be told", d.mark(0, 0, n - 1, 1), true);
                Check.is("is told", d.look(0, 0, n - 1), 1);
                d.mark(0, 0, n - 1, 2);
            }
        }
        Check.is("never more", d.tear(0, 0, 5), 0);
        Check.things(d, 0, "LL");
        for (int what = 0; what < 7; what++) {
            d.mark(0, 0, what, 1);
            d.mark(0, 2, what, 1);
        }
        d.tear(0, 1, 0);
        for (int what = 0; what < 7; what++) {
            Check.is("others are whole", d.look(0, 2, what), 1);
        }
    }

    private static void looking() {
        QuireDesk d = new QuireDesk();
        Check.things(d, 0, "LSPCT");
        for (int i = 0; i < 5; i++) {
            Check.is("kind", d.look(0, i, NONE), i + 1);
        }
        Check.is("look 7", d.look(0, 0, 7), NONE);
        Check.is("look -2", d.look(0, 0, -2), NONE);
        Check.is("look thing 5", d.look(0, 5, 0), NONE);
        Check.is("look thing -1", d.look(0, -1, NONE), NONE);
        Check.is("look row 6", d.look(6, 0, 0), NONE);
        Check.is("things", d.about(0, 0), 5);
        Check.is("hanging", d.about(0, 1), 2);
        Check.is("about 6", d.about(0, 6), NONE);
        Check.is("about -1", d.about(0, -1), NONE);
        Check.is("about row 6", d.about(6, 0), NONE);
        Check.is("about row -1", d.about(-1, 0), NONE);
    }

    private static void ruling() {
        QuireDesk d = new QuireDesk();
        int[] low = {1, 0, 1, 0};
        int[] top = {15, 8, 39, 999};
        for (int what = 2; what <= 5; what++) {
            int lo = low[what - 2];
            int hi = top[what - 2];
            Check.is("rule top", d.rule(2, what, hi), true);
            Check.is("about top", d.about(2, what), hi);
            Check.is("rule above", d.rule(2, what, hi + 1), false);
            Check.is("rule below", d.rule(2, what, lo - 1), false);
            Check.is("it stays", d.about(2, what), hi);
            Check.is("rule low", d.rule(2, what, lo), true);
            Check.is("about low", d.about(2, what), lo);
        }
        Check.is("rule 0", d.rule(2, 0, 1), false);
        Check.is("rule 1", d.rule(2, 1, 1), false);
        Check.is("rule 6", d.rule(2, 6, 1), false);
        Check.is("rule -1", d.rule(2, -1, 1), false);
        Check.is("rule row 6", d.rule(6, 2, 1), false);
        Check.is("rule row -1", d.rule(-1, 2, 1), false);
        Check.is("other row", d.about(1, 2), 15);
    }
}
