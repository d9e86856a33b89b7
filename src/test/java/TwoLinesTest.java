/** Promises 28 to 36: two lines, and the shelves. */
public final class TwoLinesTest {
    private static final Check check = new Check("two lines");

    private static void due(String call, long got, long want) {
        check.due(call, got, want);
    }

    public static void main(String[] args) {
        differences();
        count();
        keep();
        make();
        element();
        copy();
        weight();
        toss();
        heldBeyondUndo();
        check.end();
    }

    private static void differences() {
        FormulaVoice f = new FormulaVoice();
        int a = f.leaf(0, 0);
        int b = f.leaf(0, 1);
        int one = f.leaf(1, 1);
        int two = f.leaf(1, 2);
        int sumAB = f.node(2, a, b);
        int sumBA = f.node(2, b, a);
        int callA = f.node(9, sumAB, 3);
        int callB = f.node(9, sumBA, 4);
        int root = f.node(7, sumAB, 0);
        int left = f.node(3, callA, root);
        int right = f.node(3, callB, one);
        int[][] want = {
            {a, a, 0, 0}, {a, b, 1, 0}, {one, two, 1, 0}, {a, one, 2, 1}, {a, sumAB, 4, 1},
            {sumAB, sumBA, 2, 0}, {callA, callB, 3, 0}, {callA, root, 8, 1}, {left, left, 0, 0},
            {left, right, 3 + 5, 1}, {right, left, 3 + 5, 1}, {sumAB, root, 7, 1}};
        for (int[] w : want) {
            due("28: changed(" + w[0] + ", " + w[1] + ")", f.changed(w[0], w[1]), w[2]);
            due("29: exchanged(" + w[0] + ", " + w[1] + ")", f.exchanged(w[0], w[1]), w[3]);
        }
        int both = f.node(4, root, one);
        int neither = f.node(4, sumAB, a);
        due("28: two parts exchanged", f.changed(both, neither), 7 + 2);
        due("29: two parts exchanged", f.exchanged(both, neither), 2);
        due("28: changed(-1, 0)", f.changed(-1, 0), -1);
        due("28: changed(0, 99)", f.changed(0, 99), -1);
        due("29: exchanged(0, -1)", f.exchanged(0, -1), -1);
        due("29: exchanged(99, 0)", f.exchanged(99, 0), -1);
        deepDifferences();
    }

    private static void deepDifferences() {
        FormulaVoice f = new FormulaVoice();
        int letter = f.leaf(0, 0);
        int number = f.leaf(1, 0);
        int n = letter;
        int m = number;
        for (int i = 0; i < 39; i++) {
            n = f.node(7, n, 0);
            m = f.node(7, m, 0);
        }
        due("28: 40 deep by x", f.changed(n, m), 2);
        due("29: 40 deep by x", f.exchanged(n, m), 1);
        FormulaVoice g = new FormulaVoice();
        int small = g.leaf(0, 0);
        int big = g.leaf(1, 0);
        n = small;
        m = big;
        for (int i = 0; i < 19; i++) {
            n = g.node(4, small, n);
            m = g.node(4, big, m);
        }
        g.keep(0, 4, m);
        due("28: 20 deep by y", g.changed(n, m), 40);
        due("29: 20 deep by y", g.exchanged(n, m), 20);
        due("31: 39 kinds", Check.element(g, 0, 36), 4);
        due("31: 39 kinds", Check.element(g, 0, 38), 1);
        due("31: 39 kinds", Check.element(g, 0, 39), Check.ILLEGAL_STATE);
    }

    private static void count() {
        FormulaVoice f = new FormulaVoice();
        f.leaf(0, 0);
        f.leaf(0, 0);
        f.hear(3, 0);
        f.means(4, true);
        f.means(5, true);
        f.means(5, false);
        due("30: count(0)", f.count(0), 2);
        due("30: count(1)", f.count(1), 3);
        due("30: count(2)", f.count(2), 1);
        due("30: count(3)", f.count(3), -1);
        due("30: count(-1)", f.count(-1), -1);
    }

    private static void keep() {
        FormulaVoice f = new FormulaVoice();
        int a = f.leaf(0, 0);
        int one = f.leaf(1, 1);
        int call = f.node(9, one, 2);
        int top = f.node(6, call, a);
        due("31: keep(8, 0, 0)", f.keep(8, 0, 0), -1);
        due("31: keep(-1, 0, 0)", f.keep(-1, 0, 0), -1);
        due("31: keep(0, 2, 0)", f.keep(0, 2, 0), -1);
        due("31: keep(0, 5, 0)", f.keep(0, 5, 0), -1);
        due("31: keep(0, -1, 0)", f.keep(0, -1, 0), -1);
        due("31: keep(0, 1, 4)", f.keep(0, 1, 4), -1);
        due("31: keep(0, 1, -1)", f.keep(0, 1, -1), -1);
        due("31: keep(0, 4, 4)", f.keep(0, 4, 4), -1);
        due("31: nothing is held", f.weight(0), -11);
        due("31: kinds", f.keep(0, 4, top), 0);
        int[] kinds = {6, 9, 1, 0};
        for (int i = 0; i < 4; i++) {
            due("31: element(0, " + i + ")", Check.element(f, 0, i), kinds[i]);
        }
        due("31: no more", Check.element(f, 0, 4), Check.ILLEGAL_STATE);
        due("31: a refused call changes nothing", f.keep(0, 1, 99), -1);
        due("31: element(0, 1)", Check.element(f, 0, 1), 9);
        f.hear(2, 29 * 32 + 30);
        due("31: the ear, k any", f.keep(0, 3, -5), 0);
        f.hush();
        due("31: element(0, 0)", Check.element(f, 0, 0), 29);
        due("31: element(0, 1)", Check.element(f, 0, 1), 30);
        due("31: no more", Check.element(f, 0, 2), Check.ILLEGAL_STATE);
        due("31: an empty ear", f.keep(0, 3, 0), 0);
        due("31: a row of none", f.copy(0, 0, 0, 0, 0), 0);
        due("31: nothing, k any", f.keep(0, 0, 99), 0);
        due("31: nothing is held", f.copy(0, 0, 0, 0, 0), -11);
        int n = a;
        for (int i = 0; i < 39; i++) {
            n = f.node(7, n, 0);
        }
        f.keep(3, 4, n);
        due("31: 40 kinds", Check.element(f, 3, 38), 7);
        due("31: 40 kinds", Check.element(f, 3, 39), 0);
        due("31: 40 kinds", Check.element(f, 3, 40), Check.ILLEGAL_STATE);
    }

    private static void make() {
        FormulaVoice f = new FormulaVoice();
        due("32: make(8, 3, 1)", f.make(8, 3, 1), -1);
        due("32: make(-1, 3, -1)", f.make(-1, 3, -1), -1);
        due("32: make(0, 2, 1)", f.make(0, 2, 1), -1);
        due("32: make(0, 5, -1)", f.make(0, 5, -1), -1);
        due("32: make(0, 3, 61)", f.make(0, 3, 61), -1);
        due("32: make(0, 3, -1)", f.make(0, 3, -1), -14);
        due("32: make(0, 4, MIN)", f.make(0, 4, Integer.MIN_VALUE), -14);
        due("32: nothing is held", f.weight(0), -11);
        due("32: make(0, 3, 60)", f.make(0, 3, 60), 0);
        due("32: element(0, 59)", Check.element(f, 0, 59), 0);
        due("32: element(0, 60)", Check.element(f, 0, 60), Check.ILLEGAL_STATE);
        f.hear(5, 1 + 32 + 32 * 32);
        f.keep(0, 3, 0);
        due("32: make(0, 3, 5)", f.make(0, 3, 5), 0);
        due("32: all 0", Check.element(f, 0, 4), 0);
        due("32: make(0, 4, 0)", f.make(0, 4, 0), 0);
        due("32: a row of none", Check.element(f, 0, 0), Check.ILLEGAL_STATE);
        due("32: but a row", f.weight(0), -12);
    }

    private static void element() {
        FormulaVoice f = new FormulaVoice();
        f.leaf(0, 0);
        due("33: element(8, 0)", Check.element(f, 8, 0), Check.ILLEGAL_ARGUMENT);
        due("33: element(-1, 0)", Check.element(f, -1, 0), Check.ILLEGAL_ARGUMENT);
        due("33: nothing", Check.element(f, 0, 0), Check.ILLEGAL_STATE);
        f.keep(0, 1, 0);
        due("33: a node", Check.element(f, 0, 0), Check.ILLEGAL_STATE);
        f.make(0, 3, 2);
        due("33: element(0, -1)", Check.element(f, 0, -1), Check.ILLEGAL_STATE);
        due("33: element(0, 2)", Check.element(f, 0, 2), Check.ILLEGAL_STATE);
        due("33: element(0, MIN)", Check.element(f, 0, Integer.MIN_VALUE), Check.ILLEGAL_STATE);
        due("33: element(0, MAX)", Check.element(f, 0, Integer.MAX_VALUE), Check.ILLEGAL_STATE);
        due("33: element(0, 1)", Check.element(f, 0, 1), 0);
    }

    private static void copy() {
        FormulaVoice f = new FormulaVoice();
        f.leaf(0, 0);
        Check.tell(f, 1, 2, 3, 4, 5);
        f.keep(0, 3, 0);
        f.make(1, 3, 3);
        f.make(2, 4, 3);
        f.keep(3, 1, 0);
        due("34: copy(8, ..)", f.copy(8, 0, 1, 0, 1), -1);
        due("34: copy(.., 8, ..)", f.copy(0, 0, 8, 0, 1), -1);
        due("34: copy(-1, ..), ahead of all", f.copy(-1, -1, 7, 0, 1), -1);
        due("34: nothing, the first", f.copy(7, 0, 1, 0, 1), -11);
        due("34: nothing, the second", f.copy(0, 0, 7, 0, 1), -11);
        due("34: nothing, ahead of a node", f.copy(3, -1, 7, 0, 1), -11);
        due("34: a node, the first", f.copy(3, 0, 1, 0, 1), -12);
        due("34: a node, the second", f.copy(0, 0, 3, 0, 1), -12);
        due("34: two nodes", f.copy(3, 0, 3, 0, 0), -12);
        due("34: bytes and chars, ahead of the place", f.copy(0, 0, 2, 0, -1), -12);
        due("34: n below 0", f.copy(0, 0, 1, 0, -1), -13);
        due("34: i below 0", f.copy(0, -1, 1, 0, 1), -13);
        due("34: j below 0", f.copy(0, 0, 1, -1, 1), -13);
        due("34: beyond the first", f.copy(0, 3, 1, 0, 3), -13);
        due("34: beyond the second", f.copy(0, 0, 1, 1, 3), -13);
        due("34: far beyond", f.copy(0, Integer.MAX_VALUE, 1, 0, 1), -13);
        due("34: far too many", f.copy(0, 1, 1, 0, Integer.MAX_VALUE), -13);
        due("34: nothing has come", Check.element(f, 1, 0), 0);
        due("34: copy(0, 2, 1, 0, 3)", f.copy(0, 2, 1, 0, 3), 3);
        due("34: element(1, 2)", Check.element(f, 1, 2), 5);
        due("34: none, at both ends", f.copy(0, 5, 1, 3, 0), 0);
        due("34: none, beyond the end", f.copy(0, 6, 1, 0, 0), -13);
        due("34: upwards in itself", f.copy(0, 0, 0, 1, 4), 4);
        int[] up = {1, 1, 2, 3, 4};
        for (int i = 0; i < 5; i++) {
            due("34: upwards, " + i, Check.element(f, 0, i), up[i]);
        }
        due("34: downwards in itself", f.copy(0, 2, 0, 0, 3), 3);
        int[] down = {2, 3, 4, 3, 4};
        for (int i = 0; i < 5; i++) {
            due("34: downwards, " + i, Check.element(f, 0, i), down[i]);
        }
    }

    private static void weight() {
        FormulaVoice f = new FormulaVoice();
        due("35: weight(8)", f.weight(8), -1);
        due("35: weight(-1)", f.weight(-1), -1);
        due("35: weight(0)", f.weight(0), -11);
        f.make(0, 4, 1);
        due("35: a row", f.weight(0), -12);
        int letter = f.leaf(0, 7);
        int number = f.leaf(1, 9999);
        int[] want = {11, 10010, 13, 13, 13, 113, 113, 12, 24, 1012};
        for (int kind = 0; kind <= 9; kind++) {
            int n = kind == 0 ? letter : kind == 1 ? number : f.node(kind, letter, kind == 9 ? 3 : number);
            f.keep(0, 1, n);
            due("35: KIND " + kind, f.weight(0), want[kind]);
        }
        f.keep(0, 0, 0);
        due("35: nothing again", f.weight(0), -11);
    }

    private static void toss() {
        FormulaVoice f = new FormulaVoice();
        due("36: toss(8)", f.toss(8), -1);
        due("36: toss(-1)", f.toss(-1), -1);
        due("36: toss(0)", f.toss(0), -11);
        f.make(0, 3, 1);
        due("36: a row", f.toss(0), -12);
        int letter = f.leaf(0, 7);
        int number = f.leaf(1, 0);
        int[] want = {7, 0, -15, -15, -15, -15, -15, -15, -15, 3};
        for (int kind = 0; kind <= 9; kind++) {
            int n = kind == 0 ? letter : kind == 1 ? number : f.node(kind, letter, kind == 9 ? 3 : number);
            f.keep(0, 1, n);
            due("36: KIND " + kind, f.toss(0), want[kind]);
        }
    }

    /** A shelf holds the node that it got, though another one has its number by now. */
    private static void heldBeyondUndo() {
        FormulaVoice f = new FormulaVoice();
        f.leaf(1, 5);
        f.keep(0, 1, 0);
        f.undo();
        due("31: gone from the page", f.weight(0), 16);
        f.leaf(0, 2);
        due("31: another one came", f.toss(0), 5);
    }
}
