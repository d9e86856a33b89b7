import java.util.ArrayList;
import java.util.Collections;
import java.util.HashMap;
import java.util.HashSet;
import java.util.List;
import java.util.Map;
import java.util.Set;

/** The document again, as plainly as can be: trees as objects, readings listed and sorted, every way tried. */
final class Model {
    static final int TOO_MANY = 3000;

    static final class Tree {
        final int kind;
        final int v;
        final Tree x;
        final Tree y;

        Tree(int kind, int v, Tree x, Tree y) {
            this.kind = kind;
            this.v = v;
            this.x = x;
            this.y = y;
        }

        int size() {
            return 1 + (x == null ? 0 : x.size()) + (y == null ? 0 : y.size());
        }

        int depth() {
            return 1 + Math.max(x == null ? 0 : x.depth(), y == null ? 0 : y.depth());
        }

        String text() {
            return "(" + kind + " " + v + (x == null ? "" : x.text()) + (y == null ? "" : y.text()) + ")";
        }
    }

    /** A tree with the words it was heard in. */
    static final class Heard {
        final Tree tree;
        final boolean kept;
        final int words;
        final Heard x;
        final Heard y;

        Heard(Tree tree, boolean kept, int words, Heard x, Heard y) {
            this.tree = tree;
            this.kept = kept;
            this.words = words;
            this.x = x;
            this.y = y;
        }
    }

    /** Thrown, if there are too many readings to list. */
    static final class TooMany extends RuntimeException {
        private static final long serialVersionUID = 1;
    }

    final List<Tree> nodes = new ArrayList<>();
    final List<Integer> xs = new ArrayList<>();
    final List<Integer> ys = new ArrayList<>();
    final boolean[][] kept = new boolean[8][10];
    final boolean[] function = new boolean[10];
    List<Integer> ear = new ArrayList<>();
    int top = -1;
    List<Integer> steps = new ArrayList<>();
    final Object[] shelf = new Object[8];

    Model() {
        for (int kind = 2; kind <= 9; kind++) {
            kept[0][kind] = kind != 8;
        }
    }

    boolean has(int n) {
        return n >= 0 && n < nodes.size();
    }

    private int put(Tree t, int x, int y) {
        nodes.add(t);
        xs.add(x);
        ys.add(y);
        return nodes.size() - 1;
    }

    int leaf(int kind, int v) {
        if (!(kind == 0 && v >= 0 && v <= 9 || kind == 1 && v >= 0 && v <= 9999)) {
            return -1;
        }
        return nodes.size() == 120 ? -2 : put(new Tree(kind, v, null, null), -1, -1);
    }

    int node(int kind, int x, int y) {
        boolean ok = has(x) && (kind >= 2 && kind <= 6 && has(y) || kind == 7 || kind == 8
                || kind == 9 && y >= 0 && y <= 9);
        if (!ok) {
            return -1;
        }
        if (nodes.size() == 120) {
            return -2;
        }
        Tree t = new Tree(kind, kind == 9 ? y : -1, nodes.get(x), kind <= 6 ? nodes.get(y) : null);
        return t.size() > 40 ? -3 : put(t, x, kind <= 6 ? y : -1);
    }

    int undo() {
        int last = nodes.size() - 1;
        if (last < 0) {
            return -1;
        }
        if (top >= 0 && reaches(top, last)) {
            return -3;
        }
        nodes.remove(last);
        xs.remove(last);
        ys.remove(last);
        return last;
    }

    private boolean reaches(int from, int n) {
        return from >= 0 && (from == n || reaches(xs.get(from), n) || reaches(ys.get(from), n));
    }

    int means(int letter, boolean is) {
        if (letter < 0 || letter > 9) {
            return -1;
        }
        boolean was = function[letter];
        function[letter] = is;
        return was == is ? 0 : 1;
    }

    boolean right(Tree t) {
        if (t == null) {
            return true;
        }
        boolean own = t.kind == 0 ? !function[t.v] : t.kind != 9 || function[t.v];
        return own && right(t.x) && right(t.y);
    }

    int look(int n, int what) {
        if (!has(n) || what < 0 || what > 6) {
            return -1;
        }
        Tree t = nodes.get(n);
        int[] answers = {t.kind, t.v, xs.get(n), ys.get(n), t.size(), t.depth(), right(t) ? 1 : 0};
        return answers[what] == -1 ? -2 : answers[what];
    }

    int alike(int a, int b) {
        return !has(a) || !has(b) ? -1 : nodes.get(a).text().equals(nodes.get(b).text()) ? 1 : 0;
    }

    int times(int a, int b) {
        return !has(a) || !has(b) ? -1 : times(nodes.get(a), nodes.get(b).text());
    }

    private static int times(Tree t, String text) {
        return t == null ? 0 : (t.text().equals(text) ? 1 : 0) + times(t.x, text) + times(t.y, text);
    }

    int keeps(int style, int kind, boolean is) {
        if (style < 0 || style > 7 || kind < 2 || kind > 9 || kind == 8) {
            return -1;
        }
        boolean was = kept[style][kind];
        kept[style][kind] = is;
        return was == is ? 0 : 1;
    }

    /** Says a tree; below: how many steps down are said. */
    static void say(Tree t, boolean[] keeps, int below, List<Integer> to) {
        if (below < 0) {
            to.add(99);
            return;
        }
        if (keeps[t.kind]) {
            to.add(29);
        }
        switch (t.kind) {
            case 0 -> to.add(t.v);
            case 1 -> {
                for (char c : Integer.toString(t.v).toCharArray()) {
                    to.add(10 + c - '0');
                }
            }
            case 7 -> {
                to.add(25);
                say(t.x, keeps, below - 1, to);
            }
            case 8 -> {
                to.add(26);
                say(t.x, keeps, below - 1, to);
                to.add(27);
            }
            case 9 -> {
                to.add(t.v);
                to.add(28);
                say(t.x, keeps, below - 1, to);
            }
            default -> {
                say(t.x, keeps, below - 1, to);
                to.add(18 + t.kind);
                say(t.y, keeps, below - 1, to);
            }
        }
        if (keeps[t.kind]) {
            to.add(30);
        }
    }

    List<Integer> said(int style, int n) {
        List<Integer> to = new ArrayList<>();
        say(nodes.get(n), kept[style], 99, to);
        return to;
    }

    private boolean sayable(int style, int n) {
        return style >= 0 && style <= 7 && has(n);
    }

    int words(int style, int n) {
        if (!sayable(style, n)) {
            return -1;
        }
        int many = said(style, n).size();
        return many > 80 ? -5 : many;
    }

    int word(int style, int n, int i) {
        if (!sayable(style, n) || i < 0) {
            return -1;
        }
        List<Integer> all = said(style, n);
        return i >= all.size() ? -2 : all.size() > 80 ? -5 : all.get(i);
    }

    int sound(int style, int a, int b) {
        if (!sayable(style, a) || !sayable(style, b)) {
            return -1;
        }
        if (words(style, a) == -5 || words(style, b) == -5) {
            return -5;
        }
        return said(style, a).equals(said(style, b)) ? 1 : 0;
    }

    static List<List<Tree>> smallTrees() {
        List<List<Tree>> bySize = new ArrayList<>();
        bySize.add(List.of());
        bySize.add(List.of(new Tree(0, 0, null, null), new Tree(1, 1, null, null)));
        for (int size = 2; size <= 4; size++) {
            List<Tree> all = new ArrayList<>();
            for (Tree x : bySize.get(size - 1)) {
                all.add(new Tree(7, -1, x, null));
                all.add(new Tree(8, -1, x, null));
                all.add(new Tree(9, 9, x, null));
            }
            for (int left = 1; left < size - 1; left++) {
                for (Tree x : bySize.get(left)) {
                    for (Tree y : bySize.get(size - 1 - left)) {
                        for (int kind = 2; kind <= 6; kind++) {
                            all.add(new Tree(kind, -1, x, y));
                        }
                    }
                }
            }
            bySize.add(all);
        }
        return bySize;
    }

    private static final List<List<Tree>> SMALL = smallTrees();

    int clear(int style, int n) {
        if (style < 0 || style > 7 || n < 1 || n > 4) {
            return -1;
        }
        Set<List<Integer>> heard = new HashSet<>();
        for (int size = 1; size <= n; size++) {
            for (Tree t : SMALL.get(size)) {
                List<Integer> to = new ArrayList<>();
                say(t, kept[style], 99, to);
                if (!heard.add(to)) {
                    return 0;
                }
            }
        }
        return 1;
    }

    int hear(int n, int words) {
        if (n < 1 || n > 5) {
            return -1;
        }
        List<Integer> more = new ArrayList<>();
        long left = Math.floorMod((long) words, 1L << 32);
        for (int i = 0; i < n; i++) {
            more.add(0, (int) (left % 32));
            left /= 32;
        }
        if (more.contains(31)) {
            return -1;
        }
        if (ear.size() + n > 20) {
            return -2;
        }
        ear.addAll(more);
        return ear.size();
    }

    int listen(int style, int n) {
        if (!sayable(style, n)) {
            return -1;
        }
        List<Integer> all = said(style, n);
        if (all.size() > 80) {
            return -5;
        }
        if (all.size() > 20) {
            return -2;
        }
        ear = all;
        return all.size();
    }

    int hush() {
        int was = ear.size();
        ear = new ArrayList<>();
        return was;
    }

    int ear(int i) {
        return i < 0 || i >= ear.size() ? -1 : ear.get(i);
    }

    /** All trees that are said with these words, in no order; bound as the readings are told. */
    private List<Heard> hearAll(List<Integer> words, int style, Map<List<Integer>, List<Heard>> known) {
        if (known.containsKey(words)) {
            return known.get(words);
        }
        List<Heard> all = new ArrayList<>();
        int n = words.size();
        if (n > 0) {
            hearBare(words, style, false, known, all);
            if (n > 2 && words.get(0) == 29 && words.get(n - 1) == 30) {
                hearBare(words.subList(1, n - 1), style, true, known, all);
            }
        }
        if (all.size() > TOO_MANY) {
            throw new TooMany();
        }
        known.put(new ArrayList<>(words), all);
        return all;
    }

    private boolean may(int style, int kind, boolean keep) {
        return kind < 2 || kind == 8 ? !keep : style == 8 || kept[style][kind] == keep;
    }

    private void hearBare(List<Integer> words, int style, boolean keep,
            Map<List<Integer>, List<Heard>> known, List<Heard> all) {
        int n = words.size();
        int first = words.get(0);
        int many = n + (keep ? 2 : 0);
        if (n == 1 && first <= 9 && !function[first] && !keep) {
            all.add(new Heard(new Tree(0, first, null, null), false, many, null, null));
        }
        if (!keep) {
            StringBuilder digits = new StringBuilder();
            boolean number = true;
            for (int w : words) {
                number &= w >= 10 && w <= 19;
                digits.append((char) ('0' + w - 10));
            }
            if (number && n <= 4 && Integer.toString(Integer.parseInt(digits.toString())).equals(digits.toString())) {
                int v = Integer.parseInt(digits.toString());
                all.add(new Heard(new Tree(1, v, null, null), false, many, null, null));
            }
        }
        for (int m = 0; m < n; m++) {
            int kind = words.get(m) - 18;
            if (kind >= 2 && kind <= 6 && may(style, kind, keep)) {
                for (Heard x : hearAll(words.subList(0, m), style, known)) {
                    for (Heard y : hearAll(words.subList(m + 1, n), style, known)) {
                        all.add(new Heard(new Tree(kind, -1, x.tree, y.tree), keep, many, x, y));
                    }
                }
            }
        }
        if (first == 25 && may(style, 7, keep)) {
            for (Heard x : hearAll(words.subList(1, n), style, known)) {
                all.add(new Heard(new Tree(7, -1, x.tree, null), keep, many, x, null));
            }
        }
        if (n > 2 && first == 26 && words.get(n - 1) == 27 && may(style, 8, keep)) {
            for (Heard x : hearAll(words.subList(1, n - 1), style, known)) {
                all.add(new Heard(new Tree(8, -1, x.tree, null), keep, many, x, null));
            }
        }
        if (n > 2 && first <= 9 && function[first] && words.get(1) == 28 && may(style, 9, keep)) {
            for (Heard x : hearAll(words.subList(2, n), style, known)) {
                all.add(new Heard(new Tree(9, first, x.tree, null), keep, many, x, null));
            }
        }
    }

    private static int order(Heard a, Heard b) {
        if (a == null) {
            return 0;
        }
        int[] differences = {
            Integer.compare(a.tree.kind, b.tree.kind),
            Boolean.compare(a.kept, b.kept),
            a.x == null || b.x == null ? 0 : Integer.compare(a.x.words, b.x.words)};
        for (int d : differences) {
            if (d != 0) {
                return d;
            }
        }
        int byX = order(a.x, b.x);
        return byX != 0 ? byX : order(a.y, b.y);
    }

    List<Tree> readingsOf(List<Integer> words, int style) {
        List<Heard> all = new ArrayList<>(hearAll(words, style, new HashMap<>()));
        Collections.reverse(all);
        all.sort(Model::order);
        List<Tree> trees = new ArrayList<>();
        Set<String> texts = new HashSet<>();
        for (Heard h : all) {
            if (!texts.add(h.tree.text())) {
                throw new AssertionError("a tree is heard twice");
            }
            trees.add(h.tree);
        }
        return trees;
    }

    long readings(int style) {
        return style < 0 || style > 8 ? Check.ILLEGAL_ARGUMENT : readingsOf(ear, style).size();
    }

    int write(int style, long k) {
        if (style < 0 || style > 8 || k < 0) {
            return -1;
        }
        List<Tree> all = readingsOf(ear, style);
        if (k >= all.size()) {
            return -4;
        }
        Tree t = all.get((int) k);
        return nodes.size() + t.size() > 120 ? -2 : putAll(t);
    }

    private int putAll(Tree t) {
        int x = t.x == null ? -1 : putAll(t.x);
        int y = t.y == null ? -1 : putAll(t.y);
        return put(new Tree(t.kind, t.v, x < 0 ? null : nodes.get(x), y < 0 ? null : nodes.get(y)), x, y);
    }

    long place(int style, int n) {
        if (style < 0 || style > 8 || !has(n)) {
            return -1;
        }
        List<Tree> all = readingsOf(ear, style);
        for (int k = 0; k < all.size(); k++) {
            if (all.get(k).text().equals(nodes.get(n).text())) {
                return k;
            }
        }
        return -2;
    }

    int doubt(int style, long k, long other) {
        if (style < 0 || style > 8 || k < 0 || other < 0) {
            return -1;
        }
        List<Tree> all = readingsOf(ear, style);
        if (k >= all.size() || other >= all.size()) {
            return -4;
        }
        return k == other ? -2 : doubt(all.get((int) k), all.get((int) other));
    }

    private static int doubt(Tree a, Tree b) {
        if (a.kind != b.kind || a.v != b.v) {
            return 0;
        }
        boolean x = !a.x.text().equals(b.x.text());
        return x ? 1 + 3 * doubt(a.x, b.x) : 2 + 3 * doubt(a.y, b.y);
    }

    private static int choices(Tree t) {
        return t == null ? 0 : (t.kind >= 2 && t.kind != 8 ? 1 : 0) + choices(t.x) + choices(t.y);
    }

    /** Says a tree with its choices, a node ahead of its parts, kept as told from place at: the place behind. */
    private static int sayChosen(Tree t, boolean[] chosen, int at, List<Integer> to) {
        boolean choice = t.kind >= 2 && t.kind != 8;
        boolean keep = choice && chosen[at];
        int next = choice ? at + 1 : at;
        if (keep) {
            to.add(29);
        }
        switch (t.kind) {
            case 0, 1 -> say(t, new boolean[10], 0, to);
            case 7 -> to.add(25);
            case 8 -> to.add(26);
            case 9 -> {
                to.add(t.v);
                to.add(28);
            }
            default -> { }
        }
        if (t.x != null) {
            next = sayChosen(t.x, chosen, next, to);
        }
        if (t.kind == 8) {
            to.add(27);
        }
        if (t.y != null) {
            to.add(18 + t.kind);
            next = sayChosen(t.y, chosen, next, to);
        }
        if (keep) {
            to.add(30);
        }
        return next;
    }

    private boolean isOnly(List<Integer> words) {
        try {
            return hearAll(words, 8, new HashMap<>()).size() == 1;
        } catch (TooMany e) {
            return false;
        }
    }

    int fewest(int n) {
        if (!has(n)) {
            return -1;
        }
        Tree t = nodes.get(n);
        if (!right(t)) {
            return -3;
        }
        int many = choices(t);
        if (many > 8) {
            return -5;
        }
        List<Integer> best = null;
        // The first choice is the highest bit, so that the first of equally short ways is the one wanted.
        for (int mask = 0; mask < 1 << many; mask++) {
            boolean[] chosen = new boolean[many];
            for (int c = 0; c < many; c++) {
                chosen[c] = (mask >> (many - 1 - c) & 1) != 0;
            }
            List<Integer> to = new ArrayList<>();
            sayChosen(t, chosen, 0, to);
            if (to.size() <= 20 && (best == null || to.size() < best.size()) && isOnly(to)) {
                best = to;
            }
        }
        if (best == null) {
            return -2;
        }
        ear = best;
        return best.size();
    }

    int walk(int n) {
        if (!has(n)) {
            return -1;
        }
        top = n;
        steps = new ArrayList<>();
        return 0;
    }

    private int end(List<Integer> way) {
        int n = top;
        for (int s : way) {
            n = n < 0 ? -1 : s == 0 ? xs.get(n) : ys.get(n);
        }
        return n;
    }

    int go(int way) {
        if (way < 0 || way > 3) {
            return -1;
        }
        if (top < 0) {
            return -2;
        }
        List<Integer> next = new ArrayList<>(steps);
        if (way >= 2) {
            if (next.isEmpty()) {
                return -3;
            }
            int last = next.remove(next.size() - 1);
            if (way == 3) {
                next.add(1 - last);
            }
        } else {
            next.add(way);
        }
        if (end(next) < 0) {
            return -3;
        }
        steps = next;
        return end(steps);
    }

    long where(int what) {
        if (what < 0 || what > 2) {
            return -1;
        }
        if (top < 0) {
            return -2;
        }
        if (what > 0) {
            return what == 1 ? steps.size() : end(steps);
        }
        if (steps.size() > 19) {
            return Check.ILLEGAL_STATE;
        }
        long told = 0;
        long worth = 1;
        for (int s : steps) {
            told += (s + 1) * worth;
            worth *= 3;
        }
        return told;
    }

    int lead(int path) {
        if (top < 0) {
            return -2;
        }
        List<Integer> next = new ArrayList<>();
        if (path > 0) {
            String digits = new StringBuilder(Integer.toString(path, 3)).reverse().toString();
            for (char c : digits.toCharArray()) {
                if (c == '0') {
                    return -1;
                }
                next.add(c - '1');
            }
        }
        if (path < 0 || end(next) < 0) {
            return -1;
        }
        steps = next;
        return end(steps);
    }

    int glance(int style, int n) {
        if (style < 0 || style > 7 || n < 0 || n > 9) {
            return -1;
        }
        if (top < 0) {
            return -2;
        }
        List<Integer> to = new ArrayList<>();
        say(nodes.get(end(steps)), kept[style], n, to);
        return to.size() > 80 ? -5 : to.size();
    }

    /** The difference, and how many parts are exchanged whole. */
    private static int[] difference(Tree a, Tree b) {
        if (a == null) {
            return new int[] {0, 0};
        }
        int whole = a.size() + b.size();
        if (a.kind == b.kind) {
            int[] x = difference(a.x, b.x);
            int[] y = difference(a.y, b.y);
            int down = (a.v == b.v ? 0 : 1) + x[0] + y[0];
            if (down <= whole) {
                return new int[] {down, x[1] + y[1]};
            }
        }
        return new int[] {whole, 1};
    }

    int changed(int a, int b) {
        return !has(a) || !has(b) ? -1 : difference(nodes.get(a), nodes.get(b))[0];
    }

    int exchanged(int a, int b) {
        return !has(a) || !has(b) ? -1 : difference(nodes.get(a), nodes.get(b))[1];
    }

    int count(int what) {
        int functions = 0;
        for (boolean f : function) {
            functions += f ? 1 : 0;
        }
        return what == 0 ? nodes.size() : what == 1 ? ear.size() : what == 2 ? functions : -1;
    }

    int keep(int d, int what, int k) {
        if (d < 0 || d > 7 || what < 0 || what > 4 || what == 2 || (what == 1 || what == 4) && !has(k)) {
            return -1;
        }
        if (what == 0) {
            shelf[d] = null;
        } else if (what == 1) {
            shelf[d] = nodes.get(k);
        } else if (what == 3) {
            byte[] row = new byte[ear.size()];
            for (int i = 0; i < row.length; i++) {
                row[i] = (byte) (int) ear.get(i);
            }
            shelf[d] = row;
        } else {
            StringBuilder kinds = new StringBuilder();
            kinds(nodes.get(k), kinds);
            shelf[d] = kinds.toString().toCharArray();
        }
        return 0;
    }

    private static void kinds(Tree t, StringBuilder to) {
        if (t != null) {
            to.append((char) t.kind);
            kinds(t.x, to);
            kinds(t.y, to);
        }
    }

    int make(int d, int what, int n) {
        if (d < 0 || d > 7 || what < 3 || what > 4 || n > 60) {
            return -1;
        }
        if (n < 0) {
            return -14;
        }
        shelf[d] = what == 3 ? new byte[n] : new char[n];
        return 0;
    }

    private static int length(Object row) {
        return row instanceof byte[] b ? b.length : row instanceof char[] c ? c.length : -1;
    }

    long element(int d, int i) {
        if (d < 0 || d > 7) {
            return Check.ILLEGAL_ARGUMENT;
        }
        if (i < 0 || i >= length(shelf[d])) {
            return Check.ILLEGAL_STATE;
        }
        return shelf[d] instanceof byte[] b ? b[i] : ((char[]) shelf[d])[i];
    }

    int copy(int d, int i, int e, int j, int n) {
        if (d < 0 || d > 7 || e < 0 || e > 7) {
            return -1;
        }
        Object from = shelf[d];
        Object to = shelf[e];
        if (from == null || to == null) {
            return -11;
        }
        if (length(from) < 0 || from.getClass() != to.getClass()) {
            return -12;
        }
        if (n < 0 || i < 0 || j < 0 || (long) i + n > length(from) || (long) j + n > length(to)) {
            return -13;
        }
        System.arraycopy(from, i, to, j, n);
        return n;
    }

    int weight(int d) {
        if (d < 0 || d > 7) {
            return -1;
        }
        if (shelf[d] == null) {
            return -11;
        }
        if (!(shelf[d] instanceof Tree t)) {
            return -12;
        }
        int plain = t.size() + 10;
        int[] byKind = {plain, plain + t.v, plain, plain, plain, plain + 100, plain + 100, plain, 2 * plain, plain + 1000};
        return byKind[t.kind];
    }

    int toss(int d) {
        int refusal = weight(d);
        if (refusal < 0) {
            return refusal;
        }
        Tree t = (Tree) shelf[d];
        return t.v < 0 ? -15 : t.v;
    }
}
