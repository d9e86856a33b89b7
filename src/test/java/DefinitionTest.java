import java.util.ArrayList;
import java.util.HashMap;
import java.util.List;
import java.util.Map;

/**
 * READINGS, their order, places, doubts and the fewest words, from the words of "Terms" alone: all
 * FORMULAS of a few words are made, said in all ways and put together by their words. Nothing is
 * parsed here, as the class and the model do it. All READINGS of a row have as many words as it has,
 * so none is missing.
 */
public final class DefinitionTest {
    private static final Check check = new Check("definition");
    private static final int FREE = 8;

    public static void main(String[] args) {
        everyRow();
        for (int style = 0; style <= FREE; style++) {
            orderOfReadings(said(8, 1, "a", new int[] {1}, new int[] {2, 3}), style, 4);
            orderOfReadings(said(6, 1, "ab", new int[] {0, 10, 9999}, new int[] {2, 3, 4, 5, 6}), style, 28);
        }
        // Both PARTS of a pair can be in doubt from nine words on.
        orderOfReadings(said(10, 0, "a", new int[0], new int[] {2, 5}), 1, 40);
        fewestWords();
        check.end();
    }

    /** A FORMULA, with for each NODE whether it is KEPT. */
    private static final class Said {
        final int kind;
        final int v;
        final boolean kept;
        final Said x;
        final Said y;
        /** A sign for each word. */
        final String words;

        Said(int kind, int v, boolean kept, Said x, Said y) {
            this.kind = kind;
            this.v = v;
            this.kept = kept;
            this.x = x;
            this.y = y;
            this.words = (kept ? row(29) : "") + ownWords() + (kept ? row(30) : "");
        }

        private String ownWords() {
            switch (kind) {
                case 0:
                    return row(v);
                case 1:
                    StringBuilder digits = new StringBuilder();
                    for (char c : Integer.toString(v).toCharArray()) {
                        digits.append((char) (10 + c - '0'));
                    }
                    return digits.toString();
                case 7:
                    return row(25) + x.words;
                case 8:
                    return row(26) + x.words + row(27);
                case 9:
                    return row(v, 28) + x.words;
                default:
                    return x.words + row(18 + kind) + y.words;
            }
        }

        /** Whether each NODE is KEPT just as a style with these KINDS keeps it. */
        boolean isIn(boolean[] kinds) {
            return kept == kinds[kind] && (x == null || x.isIn(kinds)) && (y == null || y.isIn(kinds));
        }

        String tree() {
            return "(" + kind + "." + v + (x == null ? "" : x.tree()) + (y == null ? "" : y.tree()) + ")";
        }

        /** A NODE ahead of its PARTS, x ahead of y: 1 for one that is KEPT. */
        String keptOnes() {
            return (kept ? "1" : "0") + (x == null ? "" : x.keptOnes()) + (y == null ? "" : y.keptOnes());
        }

        int keepable() {
            int own = kind >= 2 && kind != 8 ? 1 : 0;
            return own + (x == null ? 0 : x.keepable()) + (y == null ? 0 : y.keepable());
        }
    }

    private static String row(int... words) {
        StringBuilder all = new StringBuilder();
        for (int w : words) {
            all.append((char) w);
        }
        return all.toString();
    }

    /**
     * All RIGHT FORMULAS, j alone being a FUNCTION, that can be said with 1, 2 .. most words: in all
     * ways (keeping is 1), or with none of their NODES KEPT (0).
     */
    private static List<List<Said>> said(int most, int keeping, String letters, int[] numbers, int[] pairs) {
        List<List<Said>> all = new ArrayList<>();
        for (int words = 0; words <= most; words++) {
            List<Said> some = new ArrayList<>();
            all.add(some);
            if (words == 1) {
                for (char c : letters.toCharArray()) {
                    some.add(new Said(0, c - 'a', false, null, null));
                }
            }
            for (int v : numbers) {
                if (Integer.toString(v).length() == words) {
                    some.add(new Said(1, v, false, null, null));
                }
            }
            addOfOnePart(all, some, words - 2, 8, -1, false);
            for (int kept = 0; kept <= keeping; kept++) {
                addOfOnePart(all, some, words - 1 - 2 * kept, 7, -1, kept == 1);
                addOfOnePart(all, some, words - 2 - 2 * kept, 9, 9, kept == 1);
                addPairs(all, some, words - 1 - 2 * kept, pairs, kept == 1);
            }
        }
        return all;
    }

    private static void addOfOnePart(List<List<Said>> all, List<Said> to, int left, int kind, int v, boolean kept) {
        if (left > 0) {
            for (Said x : all.get(left)) {
                to.add(new Said(kind, v, kept, x, null));
            }
        }
    }

    private static void addPairs(List<List<Said>> all, List<Said> to, int left, int[] pairs, boolean kept) {
        for (int ofX = 1; ofX < left; ofX++) {
            for (Said x : all.get(ofX)) {
                for (Said y : all.get(left - ofX)) {
                    for (int kind : pairs) {
                        to.add(new Said(kind, -1, kept, x, y));
                    }
                }
            }
        }
    }

    private static Map<String, List<Said>> byWords(List<List<Said>> all, boolean[] kinds) {
        Map<String, List<Said>> known = new HashMap<>();
        for (List<Said> some : all) {
            for (Said s : some) {
                if (kinds == null || s.isIn(kinds)) {
                    known.computeIfAbsent(s.words, w -> new ArrayList<>()).add(s);
                }
            }
        }
        return known;
    }

    /** Styles 0 and 1 as they are at first, and others with some KINDS. */
    private static boolean[] kindsOf(int style) {
        int[][] some = {{2, 3, 4, 5, 6, 7, 9}, {}, {2}, {7}, {9, 3}, {2, 7, 9}, {3, 5, 6, 7}, {2, 4, 9}};
        boolean[] kinds = new boolean[10];
        for (int kind : some[style]) {
            kinds[kind] = true;
        }
        return kinds;
    }

    private static FormulaVoice newVoice() {
        FormulaVoice f = new FormulaVoice();
        f.means(9, true);
        for (int style = 2; style < 8; style++) {
            for (int kind = 2; kind <= 9; kind++) {
                if (kindsOf(style)[kind]) {
                    f.keeps(style, kind, true);
                }
            }
        }
        return f;
    }

    private static void tell(FormulaVoice f, String words) {
        for (char w : words.toCharArray()) {
            f.hear(1, w);
        }
    }

    private static String told(String words) {
        StringBuilder all = new StringBuilder();
        for (char w : words.toCharArray()) {
            all.append(' ').append((int) w);
        }
        return all.toString();
    }

    /** Every row of up to five words out of eleven is heard as often as something is said so, else never. */
    private static void everyRow() {
        int[] alphabet = {0, 9, 10, 11, 20, 25, 26, 27, 28, 29, 30};
        int[] numbers = {0, 1, 10, 11, 100, 101, 110, 111, 1000, 1001, 1010, 1011, 1100, 1101, 1110, 1111};
        List<List<Said>> all = said(5, 1, "a", numbers, new int[] {2});
        List<Map<String, List<Said>>> known = new ArrayList<>();
        int[] styles = {0, 1, 2, 3, 5, FREE};
        for (int style : styles) {
            known.add(byWords(all, style == FREE ? null : kindsOf(style)));
        }
        List<String> rows = new ArrayList<>();
        rows.add("");
        FormulaVoice f = newVoice();
        for (int at = 0; at < rows.size(); at++) {
            String words = rows.get(at);
            // Each row is at most 12 calls, and the object was made with some 20.
            if (at % 40 == 0) {
                f = newVoice();
            }
            f.hush();
            tell(f, words);
            for (int s = 0; s < styles.length; s++) {
                int want = known.get(s).getOrDefault(words, List.of()).size();
                check.due("18: readings(" + styles[s] + ") of" + told(words), Check.readings(f, styles[s]), want);
            }
            for (int w : words.length() < 5 ? alphabet : new int[0]) {
                rows.add(words + (char) w);
            }
        }
    }

    /** The order that "Terms" tells; both are said with the same words. */
    private static int compare(Said one, Said two) {
        if (one.kind != two.kind) {
            return one.kind - two.kind;
        }
        if (one.kept != two.kept) {
            return one.kept ? 1 : -1;
        }
        if (one.x == null || two.x == null) {
            return 0;
        }
        int byX = one.x.words.length() - two.x.words.length();
        if (byX == 0) {
            byX = compare(one.x, two.x);
        }
        return byX != 0 || one.y == null || two.y == null ? byX : compare(one.y, two.y);
    }

    /** The rows in doubt, and every so many-th of the others. */
    private static void orderOfReadings(List<List<Said>> all, int style, int every) {
        Map<String, List<Said>> known = byWords(all, style == FREE ? null : kindsOf(style));
        int at = 0;
        for (Map.Entry<String, List<Said>> one : known.entrySet()) {
            at++;
            List<Said> due = one.getValue();
            if (due.size() > 1 || at % every == 0) {
                due.sort(DefinitionTest::compare);
                dueReadings(style, one.getKey(), due);
            }
        }
    }

    private static void dueReadings(int style, String words, List<Said> due) {
        String name = " in style " + style + " of" + told(words);
        FormulaVoice f = newVoice();
        tell(f, words);
        check.due("18: readings" + name, Check.readings(f, style), due.size());
        check.due("19: no more" + name, f.write(style, due.size()), -4);
        for (int k = 0; k < due.size(); k++) {
            // One READING is written and looked at with some 50 calls.
            if (k % 8 == 7) {
                f = newVoice();
                tell(f, words);
            }
            int n = f.write(style, k);
            check.due("19: READING " + k + name, treeOf(f, n).equals(due.get(k).tree()) ? 1 : 0, 1);
            check.due("20: place of READING " + k + name, f.place(style, n), k);
            check.due("21: doubt(" + k + ", 0)" + name, f.doubt(style, k, 0), k == 0 ? -2 : doubt(due.get(k), due.get(0)));
            for (int m = f.count(0); m > 0; m--) {
                f.undo();
            }
        }
    }

    private static String treeOf(FormulaVoice f, int n) {
        if (n < 0) {
            return "";
        }
        int v = f.look(n, 1);
        return "(" + f.look(n, 0) + "." + (v == -2 ? -1 : v) + treeOf(f, f.look(n, 2)) + treeOf(f, f.look(n, 3)) + ")";
    }

    private static int doubt(Said one, Said two) {
        if (one.kind != two.kind || one.v != two.v) {
            return 0;
        }
        boolean unlikeX = !one.x.tree().equals(two.x.tree());
        return unlikeX ? 1 + 3 * doubt(one.x, two.x) : 2 + 3 * doubt(one.y, two.y);
    }

    /** Of all ways to say a FORMULA those that nothing else is said in, and of these the shortest, first ones bare. */
    private static void fewestWords() {
        List<List<Said>> all = said(11, 1, "a", new int[0], new int[] {2});
        Map<String, List<Said>> known = byWords(all, null);
        Map<String, Said> best = new HashMap<>();
        Map<String, Said> bare = new HashMap<>();
        for (List<Said> some : all) {
            for (Said s : some) {
                if (!s.keptOnes().contains("1")) {
                    bare.put(s.tree(), s);
                }
                Said now = best.get(s.tree());
                if (known.get(s.words).size() == 1 && (now == null || isFewer(s, now))) {
                    best.put(s.tree(), s);
                }
            }
        }
        int at = 0;
        for (Map.Entry<String, Said> one : best.entrySet()) {
            at++;
            Said due = one.getValue();
            if (due.keepable() <= 8 && (at % 8 == 0 || due.keptOnes().contains("1"))) {
                dueFewest(bare.get(one.getKey()), due);
            }
        }
    }

    private static boolean isFewer(Said one, Said two) {
        int byWords = one.words.length() - two.words.length();
        return byWords < 0 || byWords == 0 && one.keptOnes().compareTo(two.keptOnes()) < 0;
    }

    private static void dueFewest(Said tree, Said due) {
        FormulaVoice f = newVoice();
        int n = put(f, tree);
        check.due("22: fewest of" + told(due.words), f.fewest(n), due.words.length());
        for (int i = 0; i < due.words.length(); i++) {
            check.due("22: word " + i + " of" + told(due.words), f.ear(i), due.words.charAt(i));
        }
        check.due("22: its only READING," + told(due.words), Check.readings(f, FREE), 1);
    }

    private static int put(FormulaVoice f, Said s) {
        if (s.x == null) {
            return f.leaf(s.kind, s.v);
        }
        int x = put(f, s.x);
        int y = s.y == null ? s.v : put(f, s.y);
        return f.node(s.kind, x, y);
    }
}
