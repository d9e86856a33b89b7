import java.util.ArrayList;
import java.util.List;
import java.util.Random;

/** Promises 14 to 22: hearing. */
public final class HearingTest {
    private static final Check check = new Check("hearing");

    private static void due(String call, long got, long want) {
        check.due(call, got, want);
    }

    public static void main(String[] args) {
        hear();
        listenAndEar();
        numbersAndMeanings();
        orderByKindAndX();
        orderOfPairs();
        freeOrder();
        write();
        writeRoom();
        place();
        doubt();
        fewest();
        longEar();
        fewestOfAllSmall();
        check.end();
    }

    private static int base32(int... words) {
        int told = 0;
        for (int w : words) {
            told = told * 32 + w;
        }
        return told;
    }

    private static void dueEar(String name, FormulaVoice f, int... want) {
        due(name + ", count(1)", f.count(1), want.length);
        for (int i = 0; i < want.length; i++) {
            due(name + ", ear(" + i + ")", f.ear(i), want[i]);
        }
        due(name + ", behind the last", f.ear(want.length), -1);
    }

    private static void hear() {
        FormulaVoice f = new FormulaVoice();
        due("14: hear(0, 0)", f.hear(0, 0), -1);
        due("14: hear(6, 0)", f.hear(6, 0), -1);
        due("14: hear(-1, 0)", f.hear(-1, 0), -1);
        due("14: no such word, the lowest", f.hear(2, base32(1, 31)), -1);
        due("14: no such word, the highest", f.hear(2, base32(31, 1)), -1);
        due("14: nothing has come", f.count(1), 0);
        due("14: a higher digit is left aside", f.hear(1, base32(31, 1)), 1);
        due("14: the highest first", f.hear(5, base32(5, 6, 7, 29, 30)), 6);
        dueEar("14", f, 1, 5, 6, 7, 29, 30);
        f.hear(5, 0);
        f.hear(5, 0);
        due("14: 16 and 5", f.hear(5, 0), -2);
        due("14: 16 and 5, no such word", f.hear(5, 31), -1);
        due("14: 16 and 4", f.hear(4, base32(1, 2, 3, 4)), 20);
        due("14: 20 and 1", f.hear(1, 0), -2);
        due("14: the last", f.ear(19), 4);
        due("16: hush()", f.hush(), 20);
        due("16: hush()", f.hush(), 0);
        due("16: ear(0)", f.ear(0), -1);
    }

    private static void listenAndEar() {
        FormulaVoice f = new FormulaVoice();
        int a = f.leaf(0, 1);
        int b = f.leaf(1, 42);
        int n = f.node(4, a, b);
        due("15: listen(0, 2)", f.listen(0, n), 6);
        dueEar("15", f, 29, 1, 22, 14, 12, 30);
        due("15: what was there goes", f.listen(1, n), 4);
        dueEar("15", f, 1, 22, 14, 12);
        due("15: listen(8, 2)", f.listen(8, n), -1);
        due("15: listen(-1, 2)", f.listen(-1, n), -1);
        due("15: listen(0, 3)", f.listen(0, 3), -1);
        due("17: ear(-1)", f.ear(-1), -1);
        due("17: ear(4)", f.ear(4), -1);
        int big = n;
        for (int i = 0; i < 16; i++) {
            big = f.node(7, big, 0);
        }
        due("15: 20 words", f.listen(1, big), 20);
        big = f.node(7, big, 0);
        due("15: 21 words", f.listen(1, big), -2);
        due("15: nothing is changed", f.count(1), 20);
        f.means(1, true);
        due("15: what isn't right can be said", f.listen(1, n), 4);
        due("18: but is never heard", Check.readings(f, 1), 0);
    }

    private static long heard(int style, int... words) {
        FormulaVoice f = new FormulaVoice();
        f.means(9, true);
        f.keeps(2, 2, true);
        Check.tell(f, words);
        return Check.readings(f, style);
    }

    private static void numbersAndMeanings() {
        due("18: no words", heard(8), 0);
        due("18: a", heard(1, 0), 1);
        due("18: j is a function", heard(1, 9), 0);
        due("18: 0", heard(1, 10), 1);
        due("18: 0 1", heard(1, 10, 11), 0);
        due("18: 1 0", heard(1, 11, 10), 1);
        due("18: 9 9 9 9", heard(1, 19, 19, 19, 19), 1);
        due("18: 1 0 0 0 0", heard(1, 11, 10, 10, 10, 10), 0);
        due("18: a b", heard(1, 0, 1), 0);
        due("18: a 1", heard(1, 0, 11), 0);
        due("18: j of a", heard(1, 9, 28, 0), 1);
        due("18: a of a", heard(1, 0, 28, 0), 0);
        due("18: j of j", heard(1, 9, 28, 9), 0);
        due("18: j of", heard(1, 9, 28), 0);
        due("18: root", heard(1, 25), 0);
        due("18: open a close", heard(1, 26, 0, 27), 1);
        due("18: open close", heard(1, 26, 27), 0);
        due("18: begin open a close end", heard(8, 29, 26, 0, 27, 30), 0);
        due("18: begin a end", heard(8, 29, 0, 30), 0);
        due("18: begin a plus a end, plus kept", heard(2, 29, 0, 20, 0, 30), 1);
        due("18: a plus a, plus kept", heard(2, 0, 20, 0), 0);
        due("18: begin a plus a end, none kept", heard(1, 29, 0, 20, 0, 30), 0);
        due("18: begin a plus a end, free", heard(8, 29, 0, 20, 0, 30), 1);
        due("18: begin begin a plus a end end, free", heard(8, 29, 29, 0, 20, 0, 30, 30), 0);
        due("18: two kept ones side by side, free", heard(8, 29, 0, 20, 0, 30, 21, 29, 0, 20, 0, 30), 1);
        due("18: a plus a plus", heard(1, 0, 20, 0, 20), 0);
        due("18: plus a", heard(1, 20, 0), 0);
        due("18: a plus a plus a plus a", heard(1, 0, 20, 0, 20, 0, 20, 0), 5);
        due("18: readings(9)", heard(9, 0), Check.ILLEGAL_ARGUMENT);
        due("18: readings(-1)", heard(-1, 0), Check.ILLEGAL_ARGUMENT);
    }

    /** The kinds of a node and all below it, as digits, a node ahead of its parts. */
    private static long kinds(FormulaVoice f, int node) {
        f.keep(7, 4, node);
        long told = 0;
        for (int i = 0; i < f.look(node, 4); i++) {
            told = told * 10 + Check.element(f, 7, i);
        }
        return told;
    }

    private static void dueReadings(String name, FormulaVoice f, int style, long... want) {
        due(name + ", readings", Check.readings(f, style), want.length);
        for (int k = 0; k < want.length; k++) {
            int n = f.write(style, k);
            due(name + ", reading " + k, kinds(f, n), want[k]);
            due(name + ", place of " + k, f.place(style, n), k);
        }
        due(name + ", no more", f.write(style, want.length), -4);
    }

    private static void orderByKindAndX() {
        FormulaVoice f = new FormulaVoice();
        Check.tell(f, 25, 0, 21, 1, 20, 2);
        dueReadings("19: root a times b plus c", f, 1, 237000, 273000, 370200, 723000, 730200);
    }

    private static void orderOfPairs() {
        FormulaVoice f = new FormulaVoice();
        Check.tell(f, 0, 20, 1, 20, 2, 20, 3);
        dueReadings("19: a plus b plus c plus d", f, 1, 2020200, 2022000, 2200200, 2202000, 2220000);
        FormulaVoice g = new FormulaVoice();
        // (root a plus a) over (root a plus a): x counts most, then y
        Check.tell(g, 25, 0, 20, 0, 22, 25, 0, 20, 0);
        long total = Check.readings(g, 1);
        int first = -1;
        for (int k = 0; k < total && first < 0; k++) {
            int n = g.write(1, k);
            first = g.look(n, 0) == 4 && g.look(g.look(n, 2), 4) == 4 ? k : -1;
            while (g.undo() > 0) {
                continue;
            }
        }
        long[] want = {427002700, 427007200, 472002700, 472007200};
        for (int i = 0; i < 4; i++) {
            due("18: x counts most, " + i, kinds(g, g.write(1, first + i)), want[i]);
        }
    }

    private static void freeOrder() {
        FormulaVoice f = new FormulaVoice();
        // begin a plus b end plus c plus d
        Check.tell(f, 29, 0, 20, 1, 30, 20, 2, 20, 3);
        dueReadings("18: free", f, 8, 2200200, 2220000);
        FormulaVoice g = new FormulaVoice();
        // begin a plus b plus c end: kept on top, the other one is not
        Check.tell(g, 29, 0, 20, 1, 20, 2, 30);
        dueReadings("18: free, kept on top", g, 8, 20200, 22000);
        FormulaVoice h = new FormulaVoice();
        // begin a plus b end plus begin a plus b end: never kept on top
        Check.tell(h, 29, 0, 20, 1, 30, 20, 29, 0, 20, 1, 30);
        dueReadings("18: free, kept on both sides", h, 8, 2200200);
    }

    private static void write() {
        FormulaVoice f = new FormulaVoice();
        f.means(9, true);
        int a = f.leaf(0, 0);
        Check.tell(f, 9, 28, 0, 20, 11, 12);
        due("19: write(1, -1)", f.write(1, -1), -1);
        due("19: write(9, 0)", f.write(9, 0), -1);
        due("19: write(-1, 0)", f.write(-1, 0), -1);
        due("19: write(1, 2)", f.write(1, 2), -4);
        due("19: write(1, Long.MAX_VALUE)", f.write(1, Long.MAX_VALUE), -4);
        due("19: write(1, 0)", f.write(1, 0), 4);
        int[][] want = {{0, 0, -2, -2}, {9, 9, 1, -2}, {1, 12, -2, -2}, {2, -2, 2, 3}};
        for (int n = 0; n < 4; n++) {
            for (int what = 0; what < 4; what++) {
                due("19: look(" + (n + 1) + ", " + what + ")", f.look(n + 1, what), want[n][what]);
            }
        }
        due("19: all new, though there is one alike", f.alike(a, 1), 1);
        due("19: write(1, 1)", f.write(1, 1), 8);
        due("19: look(8, 0)", f.look(8, 0), 9);
        due("19: look(7, 2)", f.look(7, 2), 5);
    }

    private static void writeRoom() {
        FormulaVoice f = new FormulaVoice();
        Check.tell(f, 0, 20, 1);
        for (int i = 0; i < 118; i++) {
            f.leaf(0, 0);
        }
        due("19: no room", f.write(1, 0), -2);
        due("19: none comes then", f.count(0), 118);
        due("19: there are not so many", f.write(1, 1), -4);
        f.undo();
        due("19: just room", f.write(1, 0), 119);
        due("19: count(0)", f.count(0), 120);
    }

    private static void place() {
        FormulaVoice f = new FormulaVoice();
        f.means(9, true);
        int a = f.leaf(0, 0);
        int b = f.leaf(0, 1);
        int sum = f.node(2, a, b);
        int root = f.node(7, sum, 0);
        int rootA = f.node(7, a, 0);
        int other = f.node(2, rootA, b);
        due("20: nothing is heard", f.place(1, sum), -2);
        f.listen(1, root);
        due("20: place(1, root)", f.place(1, root), 1);
        due("20: place(1, other)", f.place(1, other), 0);
        due("20: place(0, other)", f.place(0, other), -2);
        due("20: place(1, sum)", f.place(1, sum), -2);
        due("20: place(9, sum)", f.place(9, sum), -1);
        due("20: place(-1, sum)", f.place(-1, sum), -1);
        due("20: place(1, 6)", f.place(1, 6), -1);
        due("20: place(1, -1)", f.place(1, -1), -1);
        f.listen(0, root);
        due("20: free finds begin and end", f.place(8, root), 0);
        due("20: free", f.place(8, other), -2);
        f.means(1, true);
        f.listen(1, root);
        due("20: not right", f.place(1, root), -2);
        f.means(1, false);
        due("20: right again", f.place(1, root), 1);
        FormulaVoice g = new FormulaVoice();
        int n = g.leaf(1, 12);
        int m = g.leaf(1, 13);
        g.listen(1, n);
        due("20: a number", g.place(1, n), 0);
        due("20: another number", g.place(1, m), -2);
        for (int v : new int[] {0, 9, 10, 99, 100, 101, 999, 1000, 9999}) {
            int pair = g.node(3, g.leaf(1, v), m);
            g.listen(1, pair);
            due("20: a pair with " + v + " ahead", g.place(1, pair), 0);
            g.listen(0, pair);
            due("20: the same, kept", g.place(8, pair), 0);
        }
    }

    private static void doubt() {
        FormulaVoice f = new FormulaVoice();
        // root a times b plus c
        Check.tell(f, 25, 0, 21, 1, 20, 2);
        due("21: doubt(-1, 0, 1)", f.doubt(-1, 0, 1), -1);
        due("21: doubt(9, 0, 1)", f.doubt(9, 0, 1), -1);
        due("21: doubt(1, -1, 1)", f.doubt(1, -1, 1), -1);
        due("21: doubt(1, 1, -1)", f.doubt(1, 1, -1), -1);
        due("21: doubt(1, 0, 5)", f.doubt(1, 0, 5), -4);
        due("21: doubt(1, 5, 0)", f.doubt(1, 5, 0), -4);
        due("21: none of them is there", f.doubt(1, 5, 5), -4);
        due("21: doubt(1, 4, 4)", f.doubt(1, 4, 4), -2);
        due("21: at the top", f.doubt(1, 0, 2), 0);
        due("21: x of plus", f.doubt(1, 0, 1), 1);
        due("21: below the root", f.doubt(1, 3, 4), 1);
        FormulaVoice g = new FormulaVoice();
        // a plus b plus c plus d
        Check.tell(g, 0, 20, 1, 20, 2, 20, 3);
        due("21: y, then x", g.doubt(1, 0, 1), 2 + 3);
        due("21: x alone is unlike", g.doubt(1, 3, 4), 1 + 3);
        due("21: x first", g.doubt(1, 0, 4), 1);
        FormulaVoice h = new FormulaVoice();
        // a plus open root root b times c close
        Check.tell(h, 0, 20, 26, 25, 25, 1, 21, 2, 27);
        int total = (int) Check.readings(h, 1);
        due("21: three readings", total, 3);
        due("21: y, x, then at root", h.doubt(1, 0, 1), 2 + 3);
        due("21: y, x, x", h.doubt(1, 1, 2), 2 + 3 + 9);
        due("21: the other way round", h.doubt(1, 2, 1), 2 + 3 + 9);
    }

    private static void fewest() {
        FormulaVoice f = new FormulaVoice();
        int a = f.leaf(0, 0);
        int b = f.leaf(1, 1000);
        int root = f.node(7, a, 0);
        int front = f.node(2, root, a);
        int back = f.node(2, a, root);
        int under = f.node(7, front, 0);
        int call = f.node(9, back, 3);
        due("22: fewest(-1)", f.fewest(-1), -1);
        due("22: fewest(7)", f.fewest(7), -1);
        due("22: a letter", f.fewest(a), 1);
        dueEar("22: a", f, 0);
        due("22: a number", f.fewest(b), 4);
        due("22: a prefix at the front", f.fewest(front), 6);
        dueEar("22: front", f, 29, 25, 0, 30, 20, 0);
        due("22: a prefix at the back", f.fewest(back), 4);
        dueEar("22: back", f, 0, 20, 25, 0);
        due("22: a pair behind a prefix", f.fewest(under), 9);
        dueEar("22: under", f, 25, 29, 29, 25, 0, 30, 20, 0, 30);
        due("22: not right", f.fewest(call), -3);
        dueEar("22: unchanged", f, 25, 29, 29, 25, 0, 30, 20, 0, 30);
        f.means(3, true);
        due("22: right", f.fewest(call), 8);
        dueEar("22: call", f, 3, 28, 29, 0, 20, 25, 0, 30);
        int fenced = f.node(8, back, 0);
        due("22: a fence leaves no doubt", f.fewest(f.node(3, fenced, fenced)), 13);
        int deep = a;
        for (int i = 0; i < 8; i++) {
            deep = f.node(7, deep, 0);
        }
        due("22: eight nodes", f.fewest(deep), 9);
        deep = f.node(7, deep, 0);
        due("22: nine nodes", f.fewest(deep), -5);
        dueEar("22: unchanged", f, 25, 25, 25, 25, 25, 25, 25, 25, 0);
        int wide = f.node(2, a, a);
        for (int i = 0; i < 4; i++) {
            wide = f.node(2, wide, a);
        }
        due("22: 19 words", f.fewest(wide), 19);
        wide = f.node(2, wide, a);
        due("22: 23 words", f.fewest(wide), -2);
        due("22: nine nodes and more than 20 words", f.fewest(f.node(2, f.node(2, f.node(2, wide, a), a), a)), -5);
        f.means(0, true);
        due("22: not right, ahead of all", f.fewest(f.node(2, f.node(2, f.node(2, wide, a), a), a)), -3);
        due("22: unchanged", f.count(1), 19);
    }

    /** Twenty words with as many ways as any can have. */
    private static void longEar() {
        FormulaVoice f = new FormulaVoice();
        int[] words = {25, 0, 20, 25, 0, 20, 25, 0, 20, 25, 0, 20, 25, 0, 20, 25, 0, 20, 25, 0};
        Check.tell(f, words);
        long total = Check.readings(f, 8);
        due("18: as many as a plain count has", total, plainCount(words, 0, words.length));
        int last = f.write(8, total - 1);
        due("20: the last one", f.place(8, last), total - 1);
        int some = f.write(8, total / 2);
        due("20: one amid", f.place(8, some), total / 2);
        due("19: no more", f.write(8, total), -4);
    }

    private static long plainCount(int[] words, int i, int j) {
        if (j - i == 1) {
            return words[i] < 10 ? 1 : 0;
        }
        long sum = i < j && words[i] == 25 ? plainCount(words, i + 1, j) : 0;
        for (int m = i + 1; m < j - 1; m++) {
            sum += words[m] == 20 ? plainCount(words, i, m) * plainCount(words, m + 1, j) : 0;
        }
        return sum;
    }

    /** Many trees of up to eight nodes that can be kept, against the model, which tries every way. */
    private static void fewestOfAllSmall() {
        Random random = new Random(5);
        for (int run = 0; run < 150; run++) {
            FormulaVoice f = new FormulaVoice();
            Model m = new Model();
            f.means(9, true);
            m.means(9, true);
            List<Integer> made = new ArrayList<>();
            for (int i = 0; i < 12; i++) {
                int kind = i < 2 ? i : 2 + random.nextInt(8);
                int x = made.isEmpty() ? 0 : made.get(random.nextInt(made.size()));
                int y = kind == 9 ? 9 : made.isEmpty() ? 0 : made.get(random.nextInt(made.size()));
                int n = kind < 2 ? f.leaf(kind, kind * 10) : f.node(kind, x, y);
                due("a node", n, kind < 2 ? m.leaf(kind, kind * 10) : m.node(kind, x, y));
                if (n >= 0) {
                    made.add(n);
                    due("22: fewest, run " + run, f.fewest(n), m.fewest(n));
                    due("22: count(1), run " + run, f.count(1), m.count(1));
                    for (int w = 0; w < m.count(1); w++) {
                        due("22: ear(" + w + "), run " + run, f.ear(w), m.ear(w));
                    }
                }
            }
        }
    }
}
