/** Promises 1 to 9: the page. */
public final class PageTest {
    private static final Check check = new Check("page");

    private static void due(String call, long got, long want) {
        check.due(call, got, want);
    }

    public static void main(String[] args) {
        newObject();
        leaf();
        node();
        undo();
        meansAndRight();
        look();
        alikeAndTimes();
        keeps();
        check.end();
    }

    private static void newObject() {
        FormulaVoice f = new FormulaVoice();
        for (int what = 0; what <= 2; what++) {
            due("1: count(" + what + ")", f.count(what), 0);
        }
        due("1: undo()", f.undo(), -1);
        due("1: ear(0)", f.ear(0), -1);
        due("1: hush()", f.hush(), 0);
        due("1: go(0)", f.go(0), -2);
        due("1: where(0)", Check.where(f, 0), -2);
        due("1: readings(8)", Check.readings(f, 8), 0);
        for (int d = 0; d <= 7; d++) {
            due("1: weight(" + d + ")", f.weight(d), -11);
        }
        for (int kind = 2; kind <= 9; kind++) {
            if (kind != 8) {
                due("1: style 0 keeps " + kind, f.keeps(0, kind, true), 0);
                due("1: style 7 keeps no " + kind, f.keeps(7, kind, false), 0);
            }
        }
    }

    private static void leaf() {
        FormulaVoice f = new FormulaVoice();
        due("2: leaf(0, -1)", f.leaf(0, -1), -1);
        due("2: leaf(0, 10)", f.leaf(0, 10), -1);
        due("2: leaf(1, -1)", f.leaf(1, -1), -1);
        due("2: leaf(1, 10000)", f.leaf(1, 10000), -1);
        due("2: leaf(2, 0)", f.leaf(2, 0), -1);
        due("2: leaf(-1, 0)", f.leaf(-1, 0), -1);
        due("2: leaf(0, 9)", f.leaf(0, 9), 0);
        due("2: leaf(1, 9999)", f.leaf(1, 9999), 1);
        due("2: leaf(1, 0)", f.leaf(1, 0), 2);
        for (int n = 3; n < 120; n++) {
            due("2: leaf(0, 0)", f.leaf(0, 0), n);
        }
        due("2: leaf(0, 0), the 121st", f.leaf(0, 0), -2);
        due("2: leaf(0, 10), the 121st", f.leaf(0, 10), -1);
        due("2: count(0)", f.count(0), 120);
    }

    private static void node() {
        FormulaVoice f = new FormulaVoice();
        due("3: node(7, 0, 0), no nodes", f.node(7, 0, 0), -1);
        f.leaf(0, 0);
        due("3: node(1, 0, 0)", f.node(1, 0, 0), -1);
        due("3: node(10, 0, 0)", f.node(10, 0, 0), -1);
        due("3: node(2, 0, 1)", f.node(2, 0, 1), -1);
        due("3: node(2, 1, 0)", f.node(2, 1, 0), -1);
        due("3: node(6, -1, 0)", f.node(6, -1, 0), -1);
        due("3: node(9, 0, 10)", f.node(9, 0, 10), -1);
        due("3: node(9, 0, -1)", f.node(9, 0, -1), -1);
        due("3: node(9, 0, 9)", f.node(9, 0, 9), 1);
        due("3: node(7, 0, -77), y any", f.node(7, 0, -77), 2);
        due("3: node(8, 0, 99), y any", f.node(8, 0, 99), 3);
        due("3: look(2, 3)", f.look(2, 3), -2);
        int n = 0;
        for (int i = 0; i < 39; i++) {
            n = f.node(7, n, 0);
        }
        due("3: 39 roots", n, 42);
        due("3: SIZE", f.look(n, 4), 40);
        due("3: one more", f.node(7, n, 0), -3);
        due("3: a pair of SIZE 41", f.node(2, n - 1, 0), -3);
        due("3: a pair of SIZE 40", f.node(2, n - 2, 0), 43);
        for (int i = 44; i < 120; i++) {
            f.leaf(0, 0);
        }
        due("3: full, ahead of SIZE", f.node(7, n, 0), -2);
        due("3: wrong, ahead of full", f.node(2, n, 120), -1);
    }

    private static void undo() {
        FormulaVoice f = new FormulaVoice();
        f.leaf(0, 0);
        f.node(7, 0, 0);
        f.walk(1);
        f.go(0);
        due("4: undo(), the walk is below it", f.undo(), -3);
        due("4: count(0)", f.count(0), 2);
        f.walk(0);
        due("4: undo()", f.undo(), 1);
        due("4: undo()", f.undo(), -3);
        due("4: leaf(1, 5) takes the number", f.leaf(1, 5), 1);
        due("4: look(1, 0)", f.look(1, 0), 1);
        due("4: undo()", f.undo(), 1);
        due("4: look(1, 0)", f.look(1, 0), -1);
        FormulaVoice g = new FormulaVoice();
        g.leaf(0, 0);
        due("4: undo()", g.undo(), 0);
        due("4: undo()", g.undo(), -1);
        g.leaf(1, 7);
        due("4: an unlike one in its place", g.leaf(0, 0) - 1 + g.alike(0, 1), 0);
    }

    private static void meansAndRight() {
        FormulaVoice f = new FormulaVoice();
        f.leaf(0, 3);
        f.node(9, 0, 5);
        f.node(9, 0, 3);
        f.leaf(1, 3);
        due("5: means(10, true)", f.means(10, true), -1);
        due("5: means(-1, false)", f.means(-1, false), -1);
        due("5: means(5, false)", f.means(5, false), 0);
        due("6: a call of no function", f.look(1, 6), 0);
        due("5: means(5, true)", f.means(5, true), 1);
        due("5: means(5, true)", f.means(5, true), 0);
        due("6: a call of a function", f.look(1, 6), 1);
        due("5: means(3, true)", f.means(3, true), 1);
        due("6: a letter that is a function", f.look(0, 6), 0);
        due("6: below a right call", f.look(1, 6), 0);
        due("6: d of d is never right", f.look(2, 6), 0);
        due("5: means(3, false)", f.means(3, false), 1);
        due("6: d of d is never right", f.look(2, 6), 0);
        due("6: a number", f.look(3, 6), 1);
        due("5: count(2)", f.count(2), 1);
    }

    private static void look() {
        FormulaVoice f = new FormulaVoice();
        f.leaf(0, 4);
        f.leaf(1, 77);
        f.node(6, 1, 0);
        f.node(9, 2, 8);
        f.node(8, 3, 0);
        f.node(2, 0, 4);
        int[][] want = {
            {0, 4, -2, -2, 1, 1, 1},
            {1, 77, -2, -2, 1, 1, 1},
            {6, -2, 1, 0, 3, 2, 1},
            {9, 8, 2, -2, 4, 3, 0},
            {8, -2, 3, -2, 5, 4, 0},
            {2, -2, 0, 4, 7, 5, 0}};
        for (int n = 0; n < want.length; n++) {
            for (int what = 0; what <= 6; what++) {
                due("6: look(" + n + ", " + what + ")", f.look(n, what), want[n][what]);
            }
        }
        due("6: look(0, 7)", f.look(0, 7), -1);
        due("6: look(0, -1)", f.look(0, -1), -1);
        due("6: look(6, 0)", f.look(6, 0), -1);
        due("6: look(-1, 0)", f.look(-1, 0), -1);
    }

    private static void alikeAndTimes() {
        FormulaVoice f = new FormulaVoice();
        f.leaf(0, 1);
        f.leaf(1, 1);
        f.leaf(0, 1);
        f.node(2, 0, 1);
        f.node(2, 2, 1);
        f.node(2, 1, 0);
        f.node(9, 0, 1);
        f.node(9, 2, 2);
        f.node(3, 3, 4);
        f.node(7, 0, 0);
        f.node(8, 0, 0);
        due("7: the same v of another KIND", f.alike(0, 1), 0);
        due("7: alike(0, 2)", f.alike(0, 2), 1);
        due("7: alike(3, 4)", f.alike(3, 4), 1);
        due("7: x and y exchanged", f.alike(3, 5), 0);
        due("7: calls of other letters", f.alike(6, 7), 0);
        due("7: root and fenced", f.alike(9, 10), 0);
        due("7: itself", f.alike(8, 8), 1);
        due("7: alike(8, 11)", f.alike(8, 11), -1);
        due("7: alike(-1, 0)", f.alike(-1, 0), -1);
        due("8: times(8, 0)", f.times(8, 0), 2);
        due("8: times(8, 3)", f.times(8, 3), 2);
        due("8: itself", f.times(8, 8), 1);
        due("8: times(0, 8)", f.times(0, 8), 0);
        due("8: times(3, 2), like a part", f.times(3, 2), 1);
        due("8: times(11, 0)", f.times(11, 0), -1);
        due("8: times(0, -1)", f.times(0, -1), -1);
        FormulaVoice g = new FormulaVoice();
        g.leaf(0, 0);
        int n = 0;
        for (int i = 0; i < 4; i++) {
            n = g.node(2, n, n);
        }
        due("8: a part twice is there twice", g.times(n, 0), 16);
    }

    private static void keeps() {
        FormulaVoice f = new FormulaVoice();
        for (int kind : new int[] {-1, 0, 1, 8, 10, 34}) {
            due("9: keeps(1, " + kind + ", true)", f.keeps(1, kind, true), -1);
        }
        due("9: keeps(8, 2, true)", f.keeps(8, 2, true), -1);
        due("9: keeps(-1, 2, true)", f.keeps(-1, 2, true), -1);
        due("9: keeps(3, 9, true)", f.keeps(3, 9, true), 1);
        due("9: keeps(3, 9, true)", f.keeps(3, 9, true), 0);
        due("9: keeps(3, 9, false)", f.keeps(3, 9, false), 1);
        due("9: keeps(0, 7, false)", f.keeps(0, 7, false), 1);
        due("9: keeps(0, 7, false)", f.keeps(0, 7, false), 0);
    }
}
