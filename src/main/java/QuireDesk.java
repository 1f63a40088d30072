/**
 * A desk that reckons from a worn copy how a book was folded and what is gone.
 *
 * Words in capitals are those of the document. All arrays are made with the object and used
 * again by every call, because all calls of a run share one small room.
 */
public final class QuireDesk {
    public static final int NONE = -1;

    private static final int ROWS = 6;
    private static final int COPIES = 4;
    private static final int MOST_THINGS = 30;
    private static final int MOST_QUIRES = 8;
    private static final int MOST_PLACES = 8;
    private static final int MOST_GHOSTS = 4;
    /** PLACES ahead of the last of 8 QUIRES. */
    private static final int MOST_AHEAD = 56;
    /** Ways to lay a QUIRE with one THING or more and 4 GHOSTS at most, of all sizes. */
    private static final int MOST_LAYS = 238;
    private static final int GHOST = -2;

    private static final int LEAF = 1;
    private static final int STUB = 2;
    private static final int PASTED = 3;
    private static final int CANCEL = 4;
    private static final int PLATE = 5;

    private static final int MARKS = 7;
    private static final int MARK_LETTER = 0;
    private static final int MARK_NUMBER = 1;
    private static final int MARK_PAGE = 2;
    private static final int MARK_HEAD = 3;
    private static final int MARK_CATCH = 4;
    private static final int MARK_WATER = 5;
    private static final int MARK_SIDE = 6;
    private static final int[] MARK_TOP = {46, 8, 999, 9999, 9999, 9, 2};

    private static final int ABOUT_THINGS = 0;
    private static final int ABOUT_HANGING = 1;
    private static final int RULE_SIZES = 2;
    private static final int RULE_SIGNED = 3;
    private static final int RULE_LETTER = 4;
    private static final int RULE_PAGE = 5;
    private static final int[] RULE_LOW = {0, 0, 1, 0, 1, 0};
    private static final int[] RULE_TOP = {0, 0, 15, 8, 39, 999};

    /** What is in a PLACE of a kept FOLDING. */
    private static final int NO_PLACE = 0;
    private static final int IS_GHOST = 1;
    private static final int IS_LEAF = 2;
    private static final int IS_STUB = 3;
    private static final int IS_CANCELLED = 4;

    /** Where something must stand: wherever it likes, or nowhere at all. */
    private static final int ANY = -1;
    private static final int NEVER = -2;

    private static final char[] ALPHABET = {
        'A', 'B', 'C', 'D', 'E', 'F', 'G', 'H', 'I', 'K', 'L', 'M',
        'N', 'O', 'P', 'Q', 'R', 'S', 'T', 'V', 'X', 'Y', 'Z'};
    private static final int SINGLES = 23;
    private static final int TAPE_LENGTH = 400;

    private final Row[] rows = new Row[ROWS];
    private final Reckoner reckoner = new Reckoner();
    private final Folding current = new Folding();
    private final Folding draft = new Folding();
    private final Folding[] kept = new Folding[COPIES];
    private final Strip tape = new Strip();
    private final Strip formula = new Strip();
    private final Reader reader = new Reader();

    public QuireDesk() {
        for (int i = 0; i < ROWS; i++) {
            rows[i] = new Row();
        }
        for (int i = 0; i < COPIES; i++) {
            kept[i] = new Folding();
        }
    }

    public int put(int row, int at, int kind) {
        Row r = rowOf(row);
        if (r == null) {
            return NONE;
        }
        return r.insert(at, kind);
    }

    public int gone(int row, int i) {
        Row r = rowOf(row);
        if (r == null) {
            return NONE;
        }
        return r.remove(i);
    }

    public boolean mark(int row, int i, int what, int v) {
        Row r = rowOf(row);
        if (r == null) {
            return false;
        }
        return r.setMark(i, what, v);
    }

    public int tear(int row, int i, int n) {
        Row r = rowOf(row);
        if (r == null) {
            return NONE;
        }
        return r.tearTo(i, n);
    }

    public int look(int row, int i, int what) {
        Row r = rowOf(row);
        if (r == null || !r.has(i)) {
            return NONE;
        }
        return what == NONE ? r.kindOf(i) : r.markOf(i, what);
    }

    public int about(int row, int what) {
        Row r = rowOf(row);
        if (r == null) {
            return NONE;
        }
        if (what == ABOUT_THINGS) {
            return r.count;
        }
        return what == ABOUT_HANGING ? r.hanging() : r.ruleOf(what);
    }

    public boolean rule(int row, int what, int v) {
        Row r = rowOf(row);
        if (r == null) {
            return false;
        }
        return r.setRule(what, v);
    }

    public long ways(int row) {
        Row r = rowOf(row);
        if (r == null) {
            return NONE;
        }
        reckoner.load(r);
        return reckoner.total();
    }

    public boolean pick(int row, long k) {
        Row r = rowOf(row);
        if (r == null) {
            return false;
        }
        reckoner.load(r);
        if (k < 0 || k >= reckoner.total() || !reckoner.chooseWay(k, false)) {
            return false;
        }
        current.layOut(r, reckoner);
        return true;
    }

    public int fewest(int row) {
        Row r = rowOf(row);
        if (r == null) {
            return NONE;
        }
        reckoner.load(r);
        if (reckoner.total() <= 0 || !reckoner.chooseWay(0, true)) {
            return NONE;
        }
        current.layOut(r, reckoner);
        return current.ghosts;
    }

    public int why(int row) {
        Row r = rowOf(row);
        if (r == null) {
            return NONE;
        }
        reckoner.load(r);
        return reckoner.total() > 0 ? NONE : reckoner.firstStuck(r);
    }

    public int folding(int what) {
        switch (what) {
            case 0:
                return current.quires;
            case 1:
                return current.things;
            case 2:
                return current.ghosts;
            case 3:
                return current.placesAhead(current.quires);
            case 4:
                return current.letter;
            default:
                return NONE;
        }
    }

    public int size(int q) {
        return current.hasQuire(q) ? current.sizes[q] : NONE;
    }

    public int place(int q, int p) {
        return current.thingAt(q, p);
    }

    public int thing(int i, int what) {
        if (!current.hangs(i)) {
            return NONE;
        }
        int q = current.quireOf[i];
        int p = current.placeOf[i];
        switch (what) {
            case 0:
                return q;
            case 1:
                return p;
            case 2:
                return current.hasQuire(q) ? current.thingAt(q, current.sizes[q] + 1 - p) : NONE;
            default:
                return NONE;
        }
    }

    public int where(int q, int p, int what) {
        if (!current.hasPlace(q, p)) {
            return NONE;
        }
        switch (what) {
            case 0:
                return current.pageAt(q, p);
            case 1:
                return current.wordBefore(q, p);
            default:
                return NONE;
        }
    }

    public int write() {
        if (!current.made) {
            return NONE;
        }
        formula.writeFormula(current);
        return formula.length;
    }

    public int out(int i) {
        return formula.signAt(i);
    }

    public int feed(int a, int b, int c, int d, int e) {
        if (tape.length + 20 > TAPE_LENGTH) {
            return NONE;
        }
        tape.addInt(a);
        tape.addInt(b);
        tape.addInt(c);
        tape.addInt(d);
        tape.addInt(e);
        return tape.length;
    }

    public int end(int n) {
        if (n < 0 || n > tape.length) {
            return NONE;
        }
        tape.length = n;
        return n;
    }

    public int take() {
        tape.become(formula);
        return tape.length;
    }

    public int read() {
        boolean sound = reader.readFormula(tape, draft);
        tape.length = 0;
        if (!sound) {
            return NONE;
        }
        current.become(draft);
        return current.things;
    }

    public int fault(int what) {
        switch (what) {
            case 0:
                return reader.fault;
            case 1:
                return reader.faultAt;
            default:
                return NONE;
        }
    }

    public boolean copy(int k) {
        if (!current.made || k < 0 || k >= COPIES) {
            return false;
        }
        kept[k].become(current);
        return true;
    }

    public int against(int a, int b) {
        Folding one = keptAs(a);
        Folding other = keptAs(b);
        if (one == null || other == null) {
            return NONE;
        }
        int n = 0;
        for (int spot = 0; spot < MOST_QUIRES * MOST_PLACES; spot++) {
            if (one.stateOf(spot) != other.stateOf(spot)) {
                n++;
            }
        }
        return n;
    }

    public int differs(int a, int b, int i, int what) {
        Folding one = keptAs(a);
        Folding other = keptAs(b);
        if (one == null || other == null) {
            return NONE;
        }
        int spot = nthUnlike(one, other, i);
        if (spot == NONE) {
            return NONE;
        }
        switch (what) {
            case 0:
                return spot / MOST_PLACES;
            case 1:
                return spot % MOST_PLACES + 1;
            case 2:
                return one.stateOf(spot);
            case 3:
                return other.stateOf(spot);
            default:
                return NONE;
        }
    }

    public int ideal(int a, int b) {
        Folding one = keptAs(a);
        Folding other = keptAs(b);
        if (one == null || other == null || !one.isFoldedLike(other)) {
            return NONE;
        }
        draft.join(one, other);
        if (draft.things > MOST_THINGS) {
            return NONE;
        }
        current.become(draft);
        return current.things;
    }

    private Row rowOf(int row) {
        return row < 0 || row >= ROWS ? null : rows[row];
    }

    private Folding keptAs(int k) {
        if (k < 0 || k >= COPIES || !kept[k].made) {
            return null;
        }
        return kept[k];
    }

    /** The i-th spot at which two FOLDINGS DIFFER, or NONE. */
    private static int nthUnlike(Folding one, Folding other, int i) {
        int n = 0;
        for (int spot = 0; spot < MOST_QUIRES * MOST_PLACES; spot++) {
            if (one.stateOf(spot) != other.stateOf(spot)) {
                if (n == i) {
                    return spot;
                }
                n++;
            }
        }
        return NONE;
    }

    /** What must be, if two things must be: ANY counts nothing, unlike ones can't be. */
    private static int together(int a, int b) {
        if (a == ANY || a == b) {
            return b;
        }
        return b == ANY ? a : NEVER;
    }

    private static boolean isHanging(int kind) {
        return kind == LEAF || kind == STUB;
    }

    /** Bits of a mask are GHOSTS, the first PLACE the highest: so masks go up in THE ORDER. */
    private static boolean isGhost(int mask, int size, int p) {
        return ((mask >> (size - p)) & 1) != 0;
    }

    /** The THINGS of one ROW and its RULE. */
    private static final class Row {
        final int[] kinds = new int[MOST_THINGS];
        /** How many MARKS of a THING are not TORN off. */
        final int[] whole = new int[MOST_THINGS];
        final int[] marks = new int[MOST_THINGS * MARKS];
        final int[] rules = {0, 0, 15, 8, 1, 0};
        int count = 0;
        /** Whether something is unlike what it was when the ROW was reckoned. */
        boolean changed = true;

        boolean has(int i) {
            return i >= 0 && i < count;
        }

        int insert(int at, int kind) {
            if (at < 0 || at > count || count >= MOST_THINGS || kind < LEAF || kind > PLATE) {
                return NONE;
            }
            for (int i = count; i > at; i--) {
                shift(i - 1, i);
            }
            kinds[at] = kind;
            whole[at] = MARKS;
            for (int m = 0; m < MARKS; m++) {
                marks[at * MARKS + m] = 0;
            }
            count++;
            changed = true;
            return count;
        }

        int remove(int i) {
            if (!has(i)) {
                return NONE;
            }
            for (int k = i + 1; k < count; k++) {
                shift(k, k - 1);
            }
            count--;
            changed = true;
            return count;
        }

        private void shift(int from, int to) {
            kinds[to] = kinds[from];
            whole[to] = whole[from];
            System.arraycopy(marks, from * MARKS, marks, to * MARKS, MARKS);
        }

        boolean setMark(int i, int what, int v) {
            if (!has(i) || what < 0 || what >= whole[i] || what >= MARKS) {
                return false;
            }
            if (v < 0 || v > MARK_TOP[what]) {
                return false;
            }
            marks[i * MARKS + what] = v;
            changed = true;
            return true;
        }

        int tearTo(int i, int n) {
            if (!has(i) || n < 0) {
                return NONE;
            }
            for (int m = n; m < MARKS; m++) {
                marks[i * MARKS + m] = 0;
            }
            whole[i] = Math.min(whole[i], n);
            changed = true;
            return whole[i];
        }

        int kindOf(int i) {
            return has(i) ? kinds[i] : NONE;
        }

        int markOf(int i, int what) {
            return has(i) && what >= 0 && what < MARKS ? marks[i * MARKS + what] : NONE;
        }

        int hanging() {
            int n = 0;
            for (int i = 0; i < count; i++) {
                if (isHanging(kinds[i])) {
                    n++;
                }
            }
            return n;
        }

        int ruleOf(int what) {
            return what >= RULE_SIZES && what <= RULE_PAGE ? rules[what] : NONE;
        }

        boolean setRule(int what, int v) {
            if (what < RULE_SIZES || what > RULE_PAGE || v < RULE_LOW[what] || v > RULE_TOP[what]) {
                return false;
            }
            rules[what] = v;
            changed = true;
            return true;
        }

        boolean hangs(int i) {
            return has(i) && isHanging(kinds[i]);
        }

        /** Whether THING i is a STUB with a CANCEL right behind it. */
        boolean isCancelled(int i) {
            return has(i) && has(i + 1) && kinds[i] == STUB && kinds[i + 1] == CANCEL;
        }
    }

    /** What is known of the THINGS of a ROW that HANG, numbered among themselves. */
    private static final class Leaves {
        private static final int LOOSE = 0;
        private static final int RUNS_ON = 1;
        private static final int CLASHES = 2;

        int count = 0;
        final int[] letters = new int[MOST_THINGS];
        final int[] numbers = new int[MOST_THINGS];
        /** How many PLACES must be ahead of it by its PAGE: ANY, NEVER, or that. */
        final int[] spots = new int[MOST_THINGS];
        final int[] heads = new int[MOST_THINGS];
        final int[] nexts = new int[MOST_THINGS];
        final int[] waters = new int[MOST_THINGS];
        final int[] sides = new int[MOST_THINGS];
        /** Whether it can be right behind the leaf ahead of it: LOOSE, RUNS_ON or CLASHES. */
        final int[] ties = new int[MOST_THINGS];
        int lastSpotted = NONE;
        private int sizes = 0;
        private int signed = 0;
        private int letter = 0;

        void load(Row row) {
            count = 0;
            lastSpotted = NONE;
            sizes = row.rules[RULE_SIZES];
            signed = row.rules[RULE_SIGNED];
            letter = row.rules[RULE_LETTER];
            for (int i = 0; i < row.count; i++) {
                if (row.hangs(i) && count < MOST_THINGS) {
                    add(row, i);
                }
            }
        }

        private void add(Row row, int i) {
            int leaf = count;
            count++;
            letters[leaf] = row.markOf(i, MARK_LETTER);
            numbers[leaf] = row.markOf(i, MARK_NUMBER);
            nexts[leaf] = row.markOf(i, MARK_CATCH);
            waters[leaf] = row.markOf(i, MARK_WATER);
            sides[leaf] = row.markOf(i, MARK_SIDE);
            judge(leaf, row, i, row.isCancelled(i));
            if (spots[leaf] != ANY) {
                lastSpotted = leaf;
            }
        }

        /** What counts for a leaf of which a CANCEL right behind it has a say, if there is one. */
        void judge(int leaf, Row row, int i, boolean cancelled) {
            if (leaf < 0 || leaf >= count) {
                return;
            }
            int first = row.rules[RULE_PAGE];
            heads[leaf] = row.markOf(i, MARK_HEAD);
            spots[leaf] = spotOf(row.markOf(i, MARK_PAGE), first);
            if (cancelled) {
                int word = row.markOf(i + 1, MARK_HEAD);
                if (word > 0) {
                    heads[leaf] = word;
                }
                spots[leaf] = together(spots[leaf], spotOf(row.markOf(i + 1, MARK_PAGE), first));
            }
            ties[leaf] = LOOSE;
            if (leaf > 0 && nexts[leaf - 1] != 0 && heads[leaf] != 0) {
                ties[leaf] = nexts[leaf - 1] == heads[leaf] ? RUNS_ON : CLASHES;
            }
        }

        private static int spotOf(int page, int first) {
            if (page <= 0 || first <= 0) {
                return ANY;
            }
            int far = page - first;
            return far < 0 || (far & 1) != 0 ? NEVER : far >> 1;
        }

        boolean allows(int size) {
            return ((sizes >> (size / 2 - 1)) & 1) != 0;
        }

        /** How many from the first one on may be in QUIRE q by their LETTERS. */
        int reach(int first, int q) {
            int n = 0;
            while (n < MOST_PLACES && first >= 0 && first + n < count
                    && (letters[first + n] == 0 || letters[first + n] == letter + q)) {
                n++;
            }
            return n;
        }

        /** Whether it is of weight that a leaf is right behind the one ahead of it. */
        boolean joins(int leaf) {
            return leaf >= 0 && leaf < count && ties[leaf] != LOOSE;
        }

        /** Whether a leaf can't be right behind the one ahead of it, by the CATCH of that. */
        boolean clashes(int leaf) {
            return leaf >= 0 && leaf < count && ties[leaf] == CLASHES;
        }

        boolean mayBeAt(int leaf, int p) {
            if (leaf < 0 || leaf >= count) {
                return false;
            }
            return numbers[leaf] == 0 || (numbers[leaf] == p && p <= signed);
        }

        /** Whether two (one of which may be a GHOST) can HANG together. */
        boolean mayHang(int leaf, int other) {
            if (leaf < 0 || leaf >= count || other < 0 || other >= count) {
                return true;
            }
            if (waters[leaf] != 0 && waters[other] != 0 && waters[leaf] != waters[other]) {
                return false;
            }
            return sides[leaf] == 0 || sides[leaf] != sides[other];
        }

        /** How many PLACES must be ahead of the QUIRE in which a leaf is in PLACE p. */
        int aheadBy(int leaf, int p) {
            if (leaf < 0 || leaf >= count || spots[leaf] == ANY) {
                return ANY;
            }
            int ahead = spots[leaf] - (p - 1);
            return ahead < 0 || ahead > MOST_AHEAD || (ahead & 1) != 0 ? NEVER : ahead;
        }
    }

    /**
     * Goes through the lays of a QUIRE with leaves and GHOSTS that agree in themselves, in THE
     * ORDER. First PLACES that do not agree are left together with all lays that begin so.
     */
    private static final class Lays {
        private static final int MOST_STEPS = 1000;

        final Leaves leaves = new Leaves();
        private int first = 0;
        /** The leaf that ends an open lay; NONE: all PLACES are laid. */
        private int last = NONE;
        private int nextSize = 2;
        private int nextMask = 0;
        /** By PLACES: the leaf there, the leaf that comes next, the PLACES ahead of the QUIRE. */
        private final int[] seats = new int[MOST_PLACES + 1];
        private final int[] nexts = new int[MOST_PLACES + 1];
        private final int[] aheads = new int[MOST_PLACES + 1];
        int size = 0;
        int mask = 0;
        int things = 0;
        int ghosts = 0;
        int ahead = ANY;

        void beginWhole(int leaf) {
            beginOpen(leaf, NONE);
        }

        /** Lays of the leaves up to the last one, behind which nothing is asked. */
        void beginOpen(int leaf, int lastLeaf) {
            first = leaf;
            last = lastLeaf;
            nextSize = 2;
            nextMask = 0;
            nexts[0] = leaf;
            aheads[0] = ANY;
        }

        /** Goes to the next lay; false if there is none. */
        boolean advance() {
            // Each step leaves a mask or a size behind, and there are 340 masks in all.
            for (int step = 0; step < MOST_STEPS && nextSize <= MOST_PLACES; step++) {
                if (nextMask >= 1 << nextSize || !leaves.allows(nextSize)) {
                    nextSize += 2;
                    nextMask = 0;
                } else {
                    size = nextSize;
                    mask = nextMask;
                    int p = layMask();
                    boolean agrees = p > 0;
                    p = Math.abs(p);
                    nextMask += 1 << (size - p);
                    if (agrees) {
                        things = nexts[p] - first;
                        ghosts = p - things;
                        ahead = aheads[p];
                        return true;
                    }
                }
            }
            return false;
        }

        /** Lays PLACES up to the one at which it is known what comes of it: below 0, if nothing. */
        private int layMask() {
            // The PLACES ahead of the last GHOST are laid as they were in the lay before.
            int from = mask == 0 ? 1 : size - Integer.numberOfTrailingZeros(mask);
            for (int p = from; p <= size; p++) {
                if (!layPlace(p)) {
                    return -p;
                }
                if (last != NONE && nexts[p] > last) {
                    return p;
                }
            }
            return last == NONE && nexts[size] > first ? size : -size;
        }

        private boolean layPlace(int p) {
            if (p < 1 || p > MOST_PLACES) {
                return false;
            }
            int leaf = nexts[p - 1];
            if (isGhost(mask, size, p)) {
                seats[p] = GHOST;
                nexts[p] = leaf;
                aheads[p] = aheads[p - 1];
                return p - (leaf - first) <= MOST_GHOSTS;
            }
            seats[p] = leaf;
            nexts[p] = leaf + 1;
            aheads[p] = together(aheads[p - 1], leaves.aheadBy(leaf, p));
            if (aheads[p] == NEVER || !leaves.mayBeAt(leaf, p)) {
                return false;
            }
            if (p > 1 && seats[p - 1] != GHOST && leaves.clashes(leaf)) {
                return false;
            }
            int mate = size + 1 - p;
            return mate < 1 || mate >= p || leaves.mayHang(leaf, seats[mate]);
        }

        boolean startsWithLeaf() {
            return !isGhost(mask, size, 1);
        }

        boolean endsWithLeaf() {
            return !isGhost(mask, size, size);
        }
    }

    /**
     * Counts the FOLDINGS of a ROW that AGREE, QUIRE by QUIRE.
     *
     * A state is a QUIRE that is to be laid: its number, the first leaf in it, the GHOSTS in
     * all PLACES ahead, and whether the PLACE right ahead has a leaf. What comes ahead is of
     * no other weight, so each state is reckoned once.
     */
    private static final class Reckoner {
        /** GHOSTS ahead are as odd as the number of the first leaf: half of them tells them. */
        private static final int HALVES = 15;
        private static final int STATES = MOST_QUIRES * HALVES * MOST_THINGS * 2;
        /** More GHOSTS than there can be, and less than a load weighs in bests. */
        private static final int FAR = 1000;
        private static final int LOAD = 1024;
        /** A desk is promised for 512 calls; the loads are numbered anew far behind them. */
        private static final int MOST_LOADS = 1000;
        /** Lays of which all that counts is alike, with how many they are, in one number. */
        private static final int GROUP_LAYS = 255;
        private static final int GROUP_STARTS = 1 << 16;
        private static final int GROUP_ENDS = 1 << 17;
        private static final int SORTS = 4 * (MOST_GHOSTS + 1) * 4;

        private final Lays lays = new Lays();
        private final Leaves leaves = lays.leaves;
        private Row loaded = null;
        /** How many times a ROW was loaded: what bests has of another load counts no more. */
        private int loads = 0;
        /** For each first leaf its groups of lays, and how many they are. */
        private final int[] groups = new int[MOST_THINGS * MOST_LAYS];
        private final int[] groupCounts = new int[MOST_THINGS];
        private final int[] tally = new int[SORTS];
        /** Of each state: how many FOLDINGS from there on; their fewest GHOSTS, with the load. */
        private final long[] counts = new long[STATES];
        private final int[] bests = new int[STATES];
        final int[] chosenSizes = new int[MOST_QUIRES];
        final int[] chosenMasks = new int[MOST_QUIRES];
        int chosen = 0;

        /** Makes ready for a ROW, of which all other calls speak then. */
        void load(Row row) {
            if (row == loaded && !row.changed) {
                return;
            }
            loaded = row;
            row.changed = false;
            loads++;
            if (loads > MOST_LOADS) {
                forgetLoads();
            }
            leaves.load(row);
            for (int leaf = 0; leaf < leaves.count; leaf++) {
                groupLays(leaf);
            }
        }

        /** If the number of the load grew beyond what bests can hold, no state would be known again. */
        private void forgetLoads() {
            for (int state = 0; state < STATES; state++) {
                bests[state] = 0;
            }
            loads = 1;
        }

        /** How many FOLDINGS AGREE; the other calls want that this has been asked. */
        long total() {
            return leaves.count == 0 ? 0 : countFrom(0, 0, 0, false);
        }

        private long countFrom(int q, int leaf, int ghosts, boolean joined) {
            if (leaf >= leaves.count) {
                return 1;
            }
            int state = stateOf(q, leaf, ghosts, joined);
            if (state == NONE) {
                return 0;
            }
            if (!isKnown(state)) {
                reckon(state, q, leaf, ghosts, joined);
            }
            return counts[state];
        }

        private int leastFrom(int q, int leaf, int ghosts, boolean joined) {
            if (leaf >= leaves.count) {
                return 0;
            }
            int state = stateOf(q, leaf, ghosts, joined);
            return isKnown(state) ? bests[state] % LOAD : FAR;
        }

        /** The number of a state, in which what is of no weight is left out; NONE if none. */
        private int stateOf(int q, int leaf, int ghosts, boolean joined) {
            int half = leaf <= leaves.lastSpotted ? ghosts >> 1 : 0;
            return numberOf(q, leaf, half, joined && leaves.joins(leaf));
        }

        private static int numberOf(int q, int leaf, int half, boolean joined) {
            if (q < 0 || q >= MOST_QUIRES || leaf < 0 || leaf >= MOST_THINGS) {
                return NONE;
            }
            if (half < 0 || half >= HALVES) {
                return NONE;
            }
            return ((q * HALVES + half) * MOST_THINGS + leaf) * 2 + (joined ? 1 : 0);
        }

        private boolean isKnown(int state) {
            return state >= 0 && state < STATES && bests[state] / LOAD == loads;
        }

        private void reckon(int state, int q, int leaf, int ghosts, boolean joined) {
            int from = leaf * MOST_LAYS;
            int to = from + groupCounts[leaf];
            int reach = leaves.reach(leaf, q);
            boolean cut = joined && leaves.clashes(leaf);
            long sum = 0;
            int best = FAR;
            for (int i = from; i < to; i++) {
                int group = groups[i];
                int things = (group >> 8) & 15;
                int ahead = (group >> 18) - 1;
                boolean free = !cut || (group & GROUP_STARTS) == 0;
                if (free && things <= reach && (ahead == ANY || ahead == leaf + ghosts)) {
                    int lost = (group >> 12) & 15;
                    boolean ends = (group & GROUP_ENDS) != 0;
                    long n = countFrom(q + 1, leaf + things, ghosts + lost, ends);
                    if (n > 0) {
                        sum += n * (group & GROUP_LAYS);
                        int more = leastFrom(q + 1, leaf + things, ghosts + lost, ends);
                        best = Math.min(best, lost + more);
                    }
                }
            }
            counts[state] = sum;
            bests[state] = loads * LOAD + best;
        }

        /** Finds the groups of lays of a QUIRE that has a leaf as its first one. */
        private void groupLays(int leaf) {
            groupCounts[leaf] = 0;
            for (int sort = 0; sort < SORTS; sort++) {
                tally[sort] = 0;
            }
            lays.beginWhole(leaf);
            for (int i = 0; i < MOST_LAYS && lays.advance(); i++) {
                addLay(leaf);
            }
            for (int sort = 0; sort < SORTS; sort++) {
                if (tally[sort] > 0) {
                    addGroup(leaf, sort, ANY, tally[sort]);
                }
            }
        }

        /** Lays that must be at some PAGE are few, and each is a group of its own. */
        private void addLay(int leaf) {
            int sort = ((lays.size / 2 - 1) * (MOST_GHOSTS + 1) + lays.ghosts) * 4;
            if (lays.startsWithLeaf() && leaves.clashes(leaf)) {
                sort += 2;
            }
            if (lays.endsWithLeaf() && leaves.joins(leaf + lays.things)) {
                sort += 1;
            }
            if (lays.ahead != ANY) {
                addGroup(leaf, sort, lays.ahead, 1);
            } else if (sort >= 0 && sort < SORTS) {
                tally[sort]++;
            }
        }

        private void addGroup(int leaf, int sort, int ahead, int n) {
            int k = groupCounts[leaf];
            if (k < 0 || k >= MOST_LAYS) {
                return;
            }
            int lost = sort / 4 % (MOST_GHOSTS + 1);
            int things = 2 * (sort / 4 / (MOST_GHOSTS + 1)) + 2 - lost;
            int group = (ahead + 1) << 18 | lost << 12 | things << 8 | n;
            if ((sort & 2) != 0) {
                group |= GROUP_STARTS;
            }
            if ((sort & 1) != 0) {
                group |= GROUP_ENDS;
            }
            groups[leaf * MOST_LAYS + k] = group;
            groupCounts[leaf] = k + 1;
        }

        /** Chooses the k-th FOLDING, or (k 0) the first with the fewest GHOSTS; false if none. */
        boolean chooseWay(long k, boolean fewest) {
            long left = k;
            int leaf = 0;
            int ghosts = 0;
            boolean joined = false;
            chosen = 0;
            for (int q = 0; q < MOST_QUIRES && leaf < leaves.count; q++) {
                boolean found = false;
                int least = leastFrom(q, leaf, ghosts, joined);
                lays.beginWhole(leaf);
                for (int i = 0; i < MOST_LAYS && !found && lays.advance(); i++) {
                    long n = countBehind(q, leaf, ghosts, joined);
                    if (fewest && n > 0 && leastBehind(q, leaf, ghosts) != least) {
                        n = 0;
                    }
                    found = left < n;
                    left -= found ? 0 : n;
                }
                if (!found) {
                    return false;
                }
                choose(q);
                leaf += lays.things;
                ghosts += lays.ghosts;
                joined = lays.endsWithLeaf();
            }
            return leaf >= leaves.count;
        }

        /** How many FOLDINGS go on with the lay that is at hand. */
        private long countBehind(int q, int leaf, int ghosts, boolean joined) {
            if (lays.ahead != ANY && lays.ahead != leaf + ghosts) {
                return 0;
            }
            if (lays.things > leaves.reach(leaf, q)) {
                return 0;
            }
            if (joined && lays.startsWithLeaf() && leaves.clashes(leaf)) {
                return 0;
            }
            int lost = ghosts + lays.ghosts;
            return countFrom(q + 1, leaf + lays.things, lost, lays.endsWithLeaf());
        }

        /** The fewest GHOSTS from QUIRE q on with the lay that is at hand. */
        private int leastBehind(int q, int leaf, int ghosts) {
            int lost = ghosts + lays.ghosts;
            int more = leastFrom(q + 1, leaf + lays.things, lost, lays.endsWithLeaf());
            return lays.ghosts + more;
        }

        private void choose(int q) {
            chosenSizes[q] = lays.size;
            chosenMasks[q] = lays.mask;
            chosen = q + 1;
        }

        /** The least THING up to which no BEGINNING AGREES, else how many. */
        int firstStuck(Row row) {
            int leaf = NONE;
            for (int i = 0; i < row.count; i++) {
                boolean open = true;
                if (row.hangs(i)) {
                    leaf++;
                    // Up to a STUB there is no CANCEL behind it yet.
                    leaves.judge(leaf, row, i, false);
                    open = opensUpTo(leaf);
                    leaves.judge(leaf, row, i, row.isCancelled(i));
                } else if (row.isCancelled(i - 1)) {
                    open = opensUpTo(leaf);
                }
                if (!open) {
                    return i;
                }
            }
            return row.count;
        }

        /** Whether there is a BEGINNING whose last leaf is that. */
        private boolean opensUpTo(int last) {
            for (int first = last; first >= 0 && first > last - MOST_PLACES; first--) {
                lays.beginOpen(first, last);
                for (int i = 0; i < STATES && lays.advance(); i++) {
                    if (wasReached(first)) {
                        return true;
                    }
                }
            }
            return false;
        }

        /** Whether QUIRES that agree come up to a leaf, and the lay that is at hand fits there. */
        private boolean wasReached(int leaf) {
            boolean cut = lays.startsWithLeaf() && leaves.clashes(leaf);
            for (int q = 0; q < MOST_QUIRES; q++) {
                if (leaves.reach(leaf, q) >= lays.things) {
                    for (int half = 0; half < HALVES; half++) {
                        int places = leaf + 2 * half + (leaf & 1);
                        if ((lays.ahead == ANY || lays.ahead == places)
                                && wasIn(q, leaf, half, cut)) {
                            return true;
                        }
                    }
                }
            }
            return false;
        }

        private boolean wasIn(int q, int leaf, int half, boolean cut) {
            return isKnown(numberOf(q, leaf, half, false))
                    || (!cut && isKnown(numberOf(q, leaf, half, true)));
        }
    }

    /** A FOLDING with all that its ROW had of weight. */
    private static final class Folding {
        boolean made = false;
        int quires = 0;
        int things = 0;
        int ghosts = 0;
        int letter = 0;
        int page = 0;
        final int[] sizes = new int[MOST_QUIRES];
        final int[] cells = new int[MOST_QUIRES * MOST_PLACES];
        final int[] kinds = new int[MOST_THINGS];
        final int[] words = new int[MOST_THINGS];
        final int[] quireOf = new int[MOST_THINGS];
        final int[] placeOf = new int[MOST_THINGS];
        /** How many PLACES of the last QUIRE have been laid. */
        private int laid = 0;

        void start(int firstLetter, int firstPage) {
            made = true;
            quires = 0;
            things = 0;
            ghosts = 0;
            laid = 0;
            letter = firstLetter;
            page = firstPage;
        }

        void addQuire(int size) {
            if (quires < MOST_QUIRES) {
                sizes[quires] = size;
                quires++;
                laid = 0;
            }
        }

        void addGhost() {
            ghosts++;
            addCell(GHOST);
        }

        private void addCell(int what) {
            if (quires > 0 && laid < MOST_PLACES) {
                cells[(quires - 1) * MOST_PLACES + laid] = what;
                laid++;
            }
        }

        /** A LEAF or STUB in the next PLACE, with its CATCH. */
        void addLeaf(int kind, int word) {
            addCell(things);
            if (things < MOST_THINGS) {
                words[things] = word;
                quireOf[things] = quires - 1;
                placeOf[things] = laid;
            }
            addThing(kind);
        }

        /** More than 30 are counted, but not held: such a FOLDING is not used. */
        void addThing(int kind) {
            if (things < MOST_THINGS) {
                kinds[things] = kind;
            }
            things++;
        }

        /** All that does not HANG from i on comes too: where the next one that HANGS is. */
        private int addLoose(int[] from, int count, int i) {
            int k = Math.max(i, 0);
            while (k < count && k < from.length && !isHanging(from[k])) {
                addThing(from[k]);
                k++;
            }
            return k;
        }

        /** Lays the THINGS of a ROW as it was chosen. */
        void layOut(Row row, Reckoner by) {
            start(row.rules[RULE_LETTER], row.rules[RULE_PAGE]);
            int i = addLoose(row.kinds, row.count, 0);
            for (int q = 0; q < by.chosen && q < MOST_QUIRES; q++) {
                int size = by.chosenSizes[q];
                int mask = by.chosenMasks[q];
                addQuire(size);
                for (int p = 1; p <= size; p++) {
                    if (isGhost(mask, size, p)) {
                        addGhost();
                    } else {
                        addLeaf(row.kindOf(i), row.markOf(i, MARK_CATCH));
                        i = addLoose(row.kinds, row.count, i + 1);
                    }
                }
            }
        }

        void become(Folding other) {
            made = other.made;
            quires = other.quires;
            things = other.things;
            ghosts = other.ghosts;
            letter = other.letter;
            page = other.page;
            System.arraycopy(other.sizes, 0, sizes, 0, MOST_QUIRES);
            System.arraycopy(other.cells, 0, cells, 0, MOST_QUIRES * MOST_PLACES);
            System.arraycopy(other.kinds, 0, kinds, 0, MOST_THINGS);
            System.arraycopy(other.words, 0, words, 0, MOST_THINGS);
            System.arraycopy(other.quireOf, 0, quireOf, 0, MOST_THINGS);
            System.arraycopy(other.placeOf, 0, placeOf, 0, MOST_THINGS);
        }

        boolean hasQuire(int q) {
            return q >= 0 && q < quires && q < MOST_QUIRES;
        }

        boolean hasPlace(int q, int p) {
            return hasQuire(q) && p >= 1 && p <= sizes[q] && p <= MOST_PLACES;
        }

        int thingAt(int q, int p) {
            return hasPlace(q, p) ? cells[q * MOST_PLACES + p - 1] : NONE;
        }

        boolean hangs(int i) {
            return i >= 0 && i < things && i < MOST_THINGS && isHanging(kinds[i]);
        }

        boolean isLoose(int i) {
            return i >= 0 && i < things && i < MOST_THINGS && !isHanging(kinds[i]);
        }

        /** Whether THING i is a STUB with a CANCEL right behind it. */
        boolean isCancelled(int i) {
            return hangs(i) && kinds[i] == STUB && isLoose(i + 1) && kinds[i + 1] == CANCEL;
        }

        /** The THING behind THING i, but for a CANCEL that is in its place. */
        int behind(int i) {
            return isCancelled(i) ? i + 2 : i + 1;
        }

        int placesAhead(int q) {
            int n = 0;
            for (int k = 0; k < q && k < quires && k < MOST_QUIRES; k++) {
                n += sizes[k];
            }
            return n;
        }

        int pageAt(int q, int p) {
            return page == 0 ? 0 : page + 2 * (placesAhead(q) + p - 1);
        }

        /** The CATCH of what is in the PLACE ahead, 0 if there is none. */
        int wordBefore(int q, int p) {
            int i = NONE;
            if (p > 1) {
                i = thingAt(q, p - 1);
            } else if (hasQuire(q - 1)) {
                i = thingAt(q - 1, sizes[q - 1]);
            }
            return hangs(i) ? words[i] : 0;
        }

        /** What is in a PLACE, by the number of the PLACE among 8 of each QUIRE. */
        int stateOf(int spot) {
            int i = thingAt(spot / MOST_PLACES, spot % MOST_PLACES + 1);
            if (i == NONE) {
                return NO_PLACE;
            }
            if (!hangs(i)) {
                return IS_GHOST;
            }
            if (kinds[i] == LEAF) {
                return IS_LEAF;
            }
            return isCancelled(i) ? IS_CANCELLED : IS_STUB;
        }

        boolean isFoldedLike(Folding other) {
            if (letter != other.letter) {
                return false;
            }
            for (int q = 0; q < MOST_QUIRES; q++) {
                if (hasQuire(q) && other.hasQuire(q) && sizes[q] != other.sizes[q]) {
                    return false;
                }
            }
            return true;
        }

        /** Becomes what two FOLDINGS of like sizes have together. */
        void join(Folding a, Folding b) {
            start(a.letter, 0);
            addLoose(a.kinds, a.things, 0);
            for (int q = 0; q < MOST_QUIRES; q++) {
                if (a.hasQuire(q) || b.hasQuire(q)) {
                    int size = a.hasQuire(q) ? a.sizes[q] : b.sizes[q];
                    addQuire(size);
                    for (int p = 1; p <= size; p++) {
                        joinPlace(a, b, q, p);
                    }
                }
            }
        }

        private void joinPlace(Folding a, Folding b, int q, int p) {
            int spot = q * MOST_PLACES + p - 1;
            int inA = a.stateOf(spot);
            int inB = b.stateOf(spot);
            if (inA == IS_LEAF || inB == IS_LEAF) {
                addLeaf(LEAF, 0);
            } else if (inA == IS_CANCELLED || inB == IS_CANCELLED) {
                addLeaf(STUB, 0);
                addThing(CANCEL);
            } else if (inA == IS_STUB || inB == IS_STUB) {
                addLeaf(STUB, 0);
            } else {
                addGhost();
            }
            Folding from = inA > IS_GHOST ? a : b;
            int i = from.thingAt(q, p);
            if (i >= 0) {
                addLoose(from.kinds, from.things, from.behind(i));
            }
        }
    }

    /** Bytes in a row, 400 at most: the TAPE, and OUT. */
    private static final class Strip {
        final int[] bytes = new int[TAPE_LENGTH];
        int length = 0;
        /** How many ITEMS of the QUIRE that is being written there are. */
        private int items = 0;

        int signAt(int i) {
            return i >= 0 && i < length && i < TAPE_LENGTH ? bytes[i] : NONE;
        }

        private void add(int sign) {
            if (length >= 0 && length < TAPE_LENGTH) {
                bytes[length] = sign;
                length++;
            }
        }

        void addInt(int four) {
            add((four >>> 24) & 255);
            add((four >>> 16) & 255);
            add((four >>> 8) & 255);
            add(four & 255);
        }

        void become(Strip other) {
            length = other.length;
            System.arraycopy(other.bytes, 0, bytes, 0, TAPE_LENGTH);
        }

        void writeFormula(Folding f) {
            length = 0;
            int q = 0;
            while (q < f.quires && q < MOST_QUIRES) {
                if (q > 0) {
                    add(' ');
                }
                int run = plainRun(f, q);
                addLetters(f.letter + q);
                if (run >= 3) {
                    add('-');
                    addLetters(f.letter + q + run - 1);
                    add('0' + f.sizes[q]);
                    q += run;
                } else {
                    add('0' + f.sizes[q]);
                    addItems(f, q);
                    q++;
                }
            }
        }

        /** How many QUIRES from q on are of its size and have nothing to tell. */
        private static int plainRun(Folding f, int q) {
            int n = 0;
            while (q + n < MOST_QUIRES && isPlain(f, q + n) && f.sizes[q + n] == f.sizes[q]) {
                n++;
            }
            return n;
        }

        private static boolean isPlain(Folding f, int q) {
            if (!f.hasQuire(q) || (q == 0 && f.isLoose(0))) {
                return false;
            }
            for (int p = 1; p <= f.sizes[q]; p++) {
                int i = f.thingAt(q, p);
                if (!f.hangs(i) || f.kinds[i] != LEAF || f.isLoose(i + 1)) {
                    return false;
                }
            }
            return true;
        }

        private void addLetters(int number) {
            if (number < 1 || number > 2 * SINGLES) {
                return;
            }
            char sign = ALPHABET[(number - 1) % SINGLES];
            add(sign);
            if (number > SINGLES) {
                add(sign);
            }
        }

        private void addItems(Folding f, int q) {
            items = 0;
            if (q == 0) {
                addLoose(f, 0, 0);
            }
            for (int p = 1; p <= MOST_PLACES && f.hasPlace(q, p); p++) {
                int i = f.thingAt(q, p);
                if (!f.hangs(i)) {
                    addItem('-', p);
                } else {
                    if (f.kinds[i] == STUB) {
                        addItem(f.isCancelled(i) ? 'c' : 's', p);
                    }
                    addLoose(f, f.behind(i), p);
                }
            }
            if (items > 0) {
                add(')');
            }
        }

        private void addLoose(Folding f, int from, int p) {
            for (int i = from; i < MOST_THINGS && f.isLoose(i); i++) {
                int kind = f.kinds[i];
                addItem(kind == PASTED ? 'g' : kind == CANCEL ? 'k' : 'p', p);
            }
        }

        private void addItem(char sign, int p) {
            add(items == 0 ? '(' : ',');
            add(sign);
            add('0' + p);
            items++;
        }
    }

    /** Reads a FORMULA and knows its FAULT. */
    private static final class Reader {
        private static final int CANT_STAND = 1;
        private static final int NOT_NEXT = 2;
        private static final int NO_SUCH_PLACE = 3;
        private static final int TOO_MANY = 4;

        int fault = 0;
        int faultAt = NONE;
        private Strip text = null;
        private int pos = 0;
        /** Number of the LETTERS of the last QUIRE that was read. */
        private int latest = 0;
        /** Of the QUIRE that is being read: what is in its PLACES, and what is behind them. */
        private final int[] states = new int[MOST_PLACES + 1];
        private final int[] looseKinds = new int[MOST_THINGS + 1];
        private final int[] loosePlaces = new int[MOST_THINGS + 1];
        private int looseCount = 0;
        private int ghosts = 0;
        private int size = 0;
        /** The ITEM that was read last. */
        private int itemSign = 0;
        private int itemPlace = 0;

        boolean readFormula(Strip from, Folding into) {
            text = from;
            pos = 0;
            latest = 0;
            fault = 0;
            faultAt = NONE;
            into.start(0, 0);
            // Each round reads a QUIRE at least, and the ninth is refused.
            for (int round = 0; round <= MOST_QUIRES; round++) {
                if (!readQuire(into)) {
                    return false;
                }
                if (pos >= text.length) {
                    return true;
                }
                if (sign() != ' ') {
                    return fail(CANT_STAND, pos);
                }
                while (pos < text.length && sign() == ' ') {
                    pos++;
                }
            }
            return fail(TOO_MANY, pos);
        }

        private int sign() {
            return text == null ? NONE : text.signAt(pos);
        }

        /** Always false, which is what a reader answers then. */
        private boolean fail(int what, int at) {
            fault = what;
            faultAt = at;
            return false;
        }

        private boolean readQuire(Folding into) {
            int at = pos;
            int first = readLetters();
            if (first == 0) {
                return fail(CANT_STAND, at);
            }
            if (latest != 0 && first != latest + 1) {
                return fail(NOT_NEXT, at);
            }
            if (into.quires >= MOST_QUIRES) {
                return fail(TOO_MANY, at);
            }
            int last = first;
            if (sign() == '-') {
                pos++;
                last = readLast(first, into.quires);
                if (last == 0) {
                    return false;
                }
            }
            if (!readSize() || !readBracket(into.quires == 0, last > first)) {
                return false;
            }
            if (latest == 0) {
                into.letter = first;
            }
            latest = last;
            for (int q = first; q <= last; q++) {
                addQuire(into);
            }
            if (ghosts >= size || into.things > MOST_THINGS) {
                return fail(TOO_MANY, at);
            }
            return true;
        }

        /** The number of the LETTERS here, which are passed; 0 if there are none. */
        private int readLetters() {
            int sign = sign();
            int number = 0;
            for (int i = 0; i < SINGLES; i++) {
                if (ALPHABET[i] == sign) {
                    number = i + 1;
                }
            }
            if (number == 0) {
                return 0;
            }
            pos++;
            if (sign() != sign) {
                return number;
            }
            pos++;
            return number + SINGLES;
        }

        /** The LETTERS behind a -, 0 with a FAULT. */
        private int readLast(int first, int quires) {
            int at = pos;
            int last = readLetters();
            if (last == 0) {
                fail(CANT_STAND, at);
                return 0;
            }
            if (last <= first) {
                fail(NOT_NEXT, at);
                return 0;
            }
            if (quires + last - first + 1 > MOST_QUIRES) {
                fail(TOO_MANY, at);
                return 0;
            }
            return last;
        }

        private boolean readSize() {
            int sign = sign();
            if (sign != '2' && sign != '4' && sign != '6' && sign != '8') {
                return fail(CANT_STAND, pos);
            }
            size = sign - '0';
            pos++;
            return true;
        }

        /** The ITEMS in a bracket, if there is one. */
        private boolean readBracket(boolean firstQuire, boolean many) {
            looseCount = 0;
            ghosts = 0;
            itemSign = 0;
            itemPlace = 0;
            for (int p = 0; p <= MOST_PLACES; p++) {
                states[p] = IS_LEAF;
            }
            if (sign() != '(') {
                return true;
            }
            if (many) {
                return fail(NOT_NEXT, pos);
            }
            int most = text == null ? 0 : text.length;
            for (int i = 0; i < most; i++) {
                pos++;
                if (!readItem(firstQuire)) {
                    return false;
                }
                if (sign() == ')') {
                    pos++;
                    return true;
                }
                if (sign() != ',') {
                    return fail(CANT_STAND, pos);
                }
            }
            return fail(CANT_STAND, pos);
        }

        private boolean readItem(boolean firstQuire) {
            int at = pos;
            int sign = sign();
            boolean loose = sign == 'g' || sign == 'k' || sign == 'p';
            if (!loose && sign != '-' && sign != 's' && sign != 'c') {
                return fail(CANT_STAND, at);
            }
            pos++;
            int p = sign() - '0';
            if (p < 0 || p > 9) {
                return fail(CANT_STAND, pos);
            }
            if (sign == '-' && ghosts >= MOST_GHOSTS) {
                return fail(TOO_MANY, at);
            }
            if (p > size || p < (loose && firstQuire ? 0 : 1)) {
                return fail(NO_SUCH_PLACE, pos);
            }
            if (!(loose ? canFollow(sign, p) : p > itemPlace)) {
                return fail(NO_SUCH_PLACE, pos);
            }
            keepItem(sign, p);
            pos++;
            return true;
        }

        /** Whether what does not HANG can be told of a PLACE behind the ITEM ahead. */
        private boolean canFollow(int sign, int p) {
            if (p < itemPlace || p > MOST_PLACES || states[p] == IS_GHOST) {
                return false;
            }
            // A CANCEL right behind a STUB is told by c.
            return !(sign == 'k' && itemSign == 's' && p == itemPlace);
        }

        private void keepItem(int sign, int p) {
            itemSign = sign;
            itemPlace = p;
            if (p < 0 || p > MOST_PLACES) {
                return;
            }
            switch (sign) {
                case '-':
                    states[p] = IS_GHOST;
                    ghosts++;
                    break;
                case 's':
                    states[p] = IS_STUB;
                    break;
                case 'c':
                    states[p] = IS_CANCELLED;
                    break;
                default:
                    keepLoose(sign == 'g' ? PASTED : sign == 'k' ? CANCEL : PLATE, p);
                    break;
            }
        }

        /** One more than a FOLDING can have is enough: it is a FAULT then. */
        private void keepLoose(int kind, int p) {
            if (looseCount <= MOST_THINGS) {
                looseKinds[looseCount] = kind;
                loosePlaces[looseCount] = p;
                looseCount++;
            }
        }

        private void addQuire(Folding into) {
            addLooseOf(into, 0);
            into.addQuire(size);
            for (int p = 1; p <= size && p <= MOST_PLACES; p++) {
                if (states[p] == IS_GHOST) {
                    into.addGhost();
                } else {
                    into.addLeaf(states[p] == IS_LEAF ? LEAF : STUB, 0);
                    if (states[p] == IS_CANCELLED) {
                        into.addThing(CANCEL);
                    }
                }
                addLooseOf(into, p);
            }
        }

        private void addLooseOf(Folding into, int p) {
            for (int i = 0; i < looseCount; i++) {
                if (loosePlaces[i] == p) {
                    into.addThing(looseKinds[i]);
                }
            }
        }
    }
}
