import java.util.ArrayList;
import java.util.List;
import java.util.regex.Matcher;
import java.util.regex.Pattern;

/**
 * A FORMULA read by the words of the document, another way than the class does: what can't stand
 * there is the end of the longest beginning that some text of the grammar has; all other FAULTS
 * of a QUIRE are gathered, and the first one by its place counts.
 */
final class ReadOracle {
    private static final String ALPHABET = "ABCDEFGHIKLMNOPQRSTVXYZ";
    private static final String LETTERS = letters();
    private static final String ITEM = "[-scgkp][0-9]";
    private static final String QUIRE = "(?:" + LETTERS + ")(?:-(?:" + LETTERS + "))?[2468](?:\\("
            + ITEM + "(?:," + ITEM + ")*\\))?";
    private static final Pattern WHOLE = Pattern.compile(QUIRE + "(?: +" + QUIRE + ")*");
    private static final Pattern PARTS = Pattern.compile("(" + LETTERS + ")(-)?(" + LETTERS
            + ")?([2468])?(\\()?(.*)");
    private static final Pattern ONE = Pattern.compile(QUIRE);

    int fault = 0;
    int at = -1;
    /** The THINGS and what is in the PLACES, if there is no FAULT. */
    final Oracle row = new Oracle();
    Oracle.Fold fold = new Oracle.Fold();

    private final String text;
    /** Of the QUIRE that is being read: the first FAULT so far. */
    private int worst;
    private int worstAt;
    private int first;
    private int last;
    private int size;
    private final List<int[]> items = new ArrayList<>();
    /** The LETTERS of the QUIRE ahead. */
    private int latest = 0;

    ReadOracle(String text) {
        this.text = text;
        int stands = longestBeginning();
        boolean whole = WHOLE.matcher(text).matches();
        Matcher chunks = Pattern.compile("[^ ]+").matcher(text.substring(0, stands));
        while (fault == 0 && chunks.find()) {
            readQuire(chunks.start(), chunks.group());
            boolean complete = ONE.matcher(chunks.group()).matches();
            if (!whole && !complete) {
                tell(1, stands);
            }
            settle(chunks.start(), complete);
        }
        if (fault == 0 && !whole) {
            fault = 1;
            at = stands;
        }
    }

    private static String letters() {
        StringBuilder s = new StringBuilder();
        for (char c : ALPHABET.toCharArray()) {
            s.append(s.length() == 0 ? "" : "|").append(c).append(c).append('?');
        }
        return s.toString();
    }

    private int longestBeginning() {
        for (int n = 1; n <= text.length(); n++) {
            Matcher m = WHOLE.matcher(text.substring(0, n));
            if (!m.matches() && !m.hitEnd()) {
                return n - 1;
            }
        }
        return text.length();
    }

    private void tell(int what, int place) {
        if (worst == 0 || place < worstAt || (place == worstAt && what < worst)) {
            worst = what;
            worstAt = place;
        }
    }

    private static int number(String letters) {
        return ALPHABET.indexOf(letters.charAt(0)) + 1 + (letters.length() - 1) * 23;
    }

    private void readQuire(int start, String chunk) {
        worst = 0;
        items.clear();
        size = 0;
        Matcher m = PARTS.matcher(chunk);
        if (!m.matches()) {
            return;
        }
        first = number(m.group(1));
        last = first;
        int before = fold.quires.size();
        if (before > 0 && first != latest + 1) {
            tell(2, start);
        }
        if (before >= 8) {
            tell(4, start);
        }
        if (m.group(3) != null) {
            last = number(m.group(3));
            if (last <= first) {
                tell(2, start + m.start(3));
            }
            if (before < 8 && before + last - first + 1 > 8) {
                tell(4, start + m.start(3));
            }
        }
        row.letter = before == 0 ? first : row.letter;
        size = m.group(4) == null ? 0 : m.group(4).charAt(0) - '0';
        if (m.group(5) != null) {
            if (m.group(2) != null) {
                tell(2, start + m.start(5));
            }
            readItems(start + m.start(6), m.group(6), before == 0);
        }
    }

    private void readItems(int start, String inside, boolean firstQuire) {
        Matcher m = Pattern.compile("([-scgkp])([0-9])").matcher(inside);
        int ghosts = 0;
        while (m.find()) {
            char sign = m.group(1).charAt(0);
            int p = m.group(2).charAt(0) - '0';
            if (sign == '-') {
                ghosts++;
                if (ghosts == 5) {
                    tell(4, start + m.start(1));
                }
            }
            if (cantBe(sign, p, firstQuire)) {
                tell(3, start + m.start(2));
            }
            items.add(new int[] {sign, p});
        }
    }

    private boolean cantBe(char sign, int p, boolean firstQuire) {
        boolean loose = "gkp".indexOf(sign) >= 0;
        boolean cant = p > size || (p == 0 && !(loose && firstQuire));
        int[] ahead = items.isEmpty() ? null : items.get(items.size() - 1);
        for (int[] item : items) {
            cant |= item[1] > p;
            cant |= !loose && item[1] == p;
            cant |= loose && item[0] == '-' && item[1] == p;
        }
        return cant | (sign == 'k' && ahead != null && ahead[0] == 's' && ahead[1] == p);
    }

    private void settle(int start, boolean complete) {
        if (worst == 0 && complete) {
            build();
            int[] quire = fold.quires.get(fold.quires.size() - 1);
            if (Oracle.ghostsIn(quire) == quire.length || row.things.size() > 30) {
                tell(4, start);
            }
        }
        fault = worst;
        at = worst == 0 ? -1 : worstAt;
    }

    private void build() {
        for (int n = first; n <= last; n++) {
            addQuire();
        }
        latest = last;
    }

    private void addQuire() {
        int[] quire = new int[size];
        add(0);
        for (int p = 1; p <= size; p++) {
            quire[p - 1] = row.things.size();
            int kind = 1;
            for (int[] item : items) {
                if (item[1] == p && item[0] == '-') {
                    kind = 0;
                    quire[p - 1] = Oracle.GHOST;
                } else if (item[1] == p && (item[0] == 's' || item[0] == 'c')) {
                    kind = 2;
                }
            }
            if (kind > 0) {
                row.things.add(Oracle.thing(kind));
            }
            add(p);
        }
        fold = fold.with(quire);
    }

    private void add(int p) {
        for (int[] item : items) {
            int kind = "  gkp".indexOf(item[0]) + 1;
            kind = item[0] == 'c' ? 4 : kind;
            if (item[1] == p && kind >= 3) {
                row.things.add(Oracle.thing(kind));
            }
        }
    }
}
