/** Promises 23 to 27, edge by edge: the last that is taken, the first that is refused, and nothing changed by it. */
public final class WalkingEdgesTest {
    private static final int MIN = Integer.MIN_VALUE;
    private static final int MAX = Integer.MAX_VALUE;
    /** The PATH of 19 times x, and of 20 times. */
    private static final int NINETEEN = 581130733;
    private static final int TWENTY = 1743392200;
    private static final Check check = new Check("walking, edges");

    public static void main(String[] args) {
        walkRanges();
        walkAnew();
        goRanges();
        goNowhere();
        goBeside();
        goDeepest();
        whereRanges();
        whereDeep();
        whereDeepByY();
        leadRanges();
        leadNowhere();
        leadDeep();
        glanceRanges();
        glanceDepths();
        glanceWords();
        glanceEighty();
        check.end();
    }

    private static Run run() {
        return new Run(check);
    }

    private static void walkRanges() {
        Run r = run();
        r.asks("23: no nodes", f -> f.walk(0), -1);
        r.letters(0, 2);
        for (int node : new int[] {-1, 2, 120, MIN, MAX}) {
            r.asks("23: walk(" + node + "), no walk", f -> f.walk(node), -1);
        }
        r.does("23: the last", f -> f.walk(1), 0);
        for (int node : new int[] {-1, 2, 120, MIN, MAX}) {
            r.asks("23: walk(" + node + "), a walk", f -> f.walk(node), -1);
        }
        r.asks("25: it is there still", f -> Check.where(f, 2), 1);
        r.does("23: the first", f -> f.walk(0), 0);
        r.asks("25: it is there", f -> Check.where(f, 2), 0);
        Run full = run().letters(0, 120);
        full.does("23: the 120th", f -> f.walk(119), 0);
        full.asks("23: no 121st", f -> f.walk(120), -1);
    }

    private static void walkAnew() {
        Run r = run().letters(0, 2);
        r.does("23: a pair", f -> f.node(2, 0, 1), 2);
        r.does("23: walk", f -> f.walk(2), 0);
        r.does("24: down", f -> f.go(1), 1);
        r.does("23: the same one, from its top", f -> f.walk(2), 0);
        r.asks("25: at the top", f -> Check.where(f, 1), 0);
        r.does("24: down", f -> f.go(0), 0);
        r.does("23: a walk of where it is", f -> f.walk(0), 0);
        r.asks("24: nothing above it", f -> f.go(2), -3);
    }

    private static void goRanges() {
        Run r = run();
        for (int way = 0; way <= 3; way++) {
            int w = way;
            r.asks("24: no nodes, go(" + w + ")", f -> f.go(w), -2);
        }
        r.letters(0, 2);
        r.does("24: a pair", f -> f.node(2, 0, 1), 2);
        for (int way = 0; way <= 3; way++) {
            int w = way;
            r.asks("24: no walk, go(" + w + ")", f -> f.go(w), -2);
        }
        for (int way : new int[] {-1, 4, MIN, MAX}) {
            r.asks("24: no walk, go(" + way + ") is ahead", f -> f.go(way), -1);
        }
        r.does("23: walk", f -> f.walk(2), 0);
        for (int way : new int[] {-1, 4, MIN, MAX}) {
            r.asks("24: a walk, go(" + way + ")", f -> f.go(way), -1);
        }
        r.does("24: the first way", f -> f.go(0), 0);
        r.does("24: the last way", f -> f.go(3), 1);
        for (int way : new int[] {-1, 4}) {
            r.asks("24: where nothing is below, go(" + way + ") is ahead", f -> f.go(way), -1);
        }
        r.does("24: back", f -> f.go(2), 2);
        r.does("24: to y", f -> f.go(1), 1);
    }

    private static void goNowhere() {
        Run r = run().letters(0, 1);
        r.does("24: 5", f -> f.leaf(1, 5), 1);
        for (int leaf = 0; leaf <= 1; leaf++) {
            int n = leaf;
            r.does("23: walk at a leaf", f -> f.walk(n), 0);
            for (int way = 0; way <= 3; way++) {
                int w = way;
                r.asks("24: at a leaf, go(" + w + ")", f -> f.go(w), -3);
            }
        }
        for (int kind = 7; kind <= 9; kind++) {
            int k = kind;
            int n = kind - 5;
            r.does("24: one of kind " + k, f -> f.node(k, 0, 1), n);
            r.does("23: walk at it", f -> f.walk(n), 0);
            r.asks("24: it has no y", f -> f.go(1), -3);
            r.asks("24: nothing is above the top", f -> f.go(2), -3);
            r.asks("24: nothing is beside the top", f -> f.go(3), -3);
            r.does("24: it has an x", f -> f.go(0), 0);
            r.asks("24: nothing is beside it", f -> f.go(3), -3);
            r.asks("24: nothing is below it", f -> f.go(0), -3);
            r.asks("25: it is there still", f -> Check.where(f, 0), 1);
            r.does("24: back up", f -> f.go(2), n);
        }
    }

    private static void goBeside() {
        for (int kind = 2; kind <= 6; kind++) {
            int k = kind;
            Run r = run().letters(0, 1);
            r.does("24: the same part twice", f -> f.node(k, 0, 0), 1);
            r.does("23: walk", f -> f.walk(1), 0);
            r.asks("24: nothing is beside the top", f -> f.go(3), -3);
            r.does("24: to x", f -> f.go(0), 0);
            r.asks("25: at x", f -> Check.where(f, 0), 1);
            r.does("24: beside", f -> f.go(3), 0);
            r.asks("25: at y", f -> Check.where(f, 0), 2);
            r.does("24: beside again", f -> f.go(3), 0);
            r.asks("25: at x again", f -> Check.where(f, 0), 1);
        }
    }

    private static void goDeepest() {
        Run r = run().letters(0, 1).chain(8, 0, 1, 39);
        r.does("23: walk", f -> f.walk(39), 0);
        for (int i = 38; i >= 0; i--) {
            int n = i;
            r.does("24: down to " + n, f -> f.go(0), n);
        }
        r.asks("25: 39 below the top", f -> Check.where(f, 1), 39);
        r.asks("24: no deeper", f -> f.go(0), -3);
        for (int i = 1; i <= 39; i++) {
            int n = i;
            r.does("24: up to " + n, f -> f.go(2), n);
        }
        r.asks("24: no higher", f -> f.go(2), -3);
        r.asks("25: at the top", f -> Check.where(f, 0), 0);
    }

    private static void whereRanges() {
        Run r = run().letters(0, 1);
        for (int what = 0; what <= 2; what++) {
            int w = what;
            r.asks("25: no walk, where(" + w + ")", f -> Check.where(f, w), -2);
        }
        for (int what : new int[] {-1, 3, MIN, MAX}) {
            r.asks("25: no walk, where(" + what + ") is ahead", f -> Check.where(f, what), -1);
        }
        r.does("23: walk", f -> f.walk(0), 0);
        for (int what : new int[] {-1, 3, MIN, MAX}) {
            r.asks("25: where(" + what + ")", f -> Check.where(f, what), -1);
        }
        for (int what = 0; what <= 2; what++) {
            int w = what;
            r.asks("25: at the top, where(" + w + ")", f -> Check.where(f, w), 0);
        }
    }

    private static void whereDeep() {
        Run r = run().letters(0, 1).chain(7, 0, 1, 39);
        r.does("23: walk", f -> f.walk(39), 0);
        int told = 0;
        int worth = 1;
        for (int depth = 1; depth <= 19; depth++) {
            int n = 39 - depth;
            r.does("24: down to " + n, f -> f.go(0), n);
            told += worth;
            worth *= 3;
            int path = told;
            r.asks("25: the path, " + depth + " deep", f -> Check.where(f, 0), path);
        }
        check.due("25: 19 times x", told, NINETEEN);
        r.does("24: 20 deep", f -> f.go(0), 19);
        r.asks("25: no path", f -> Check.where(f, 0), Check.ILLEGAL_STATE);
        r.asks("25: but how deep", f -> Check.where(f, 1), 20);
        r.asks("25: and the node", f -> Check.where(f, 2), 19);
        r.asks("25: nor a fourth", f -> Check.where(f, 3), -1);
        for (int n = 18; n >= 0; n--) {
            int next = n;
            r.does("24: deeper", f -> f.go(0), next);
        }
        r.asks("25: 39 deep, no path", f -> Check.where(f, 0), Check.ILLEGAL_STATE);
        r.asks("25: 39 deep", f -> Check.where(f, 1), 39);
        for (int n = 1; n <= 20; n++) {
            int next = n;
            r.does("24: up again", f -> f.go(2), next);
        }
        r.asks("25: 19 deep again", f -> Check.where(f, 0), NINETEEN);
    }

    /** 19 times y is the greatest PATH of all that where tells. */
    private static void whereDeepByY() {
        Run r = run().letters(0, 1);
        for (int i = 1; i <= 19; i++) {
            int y = i - 1;
            r.does("25: a pair", f -> f.node(5, 0, y), y + 1);
        }
        r.does("23: walk", f -> f.walk(19), 0);
        for (int n = 18; n >= 0; n--) {
            int next = n;
            r.does("24: to y", f -> f.go(1), next);
        }
        r.asks("25: 19 times y", f -> Check.where(f, 0), 2 * NINETEEN);
        r.does("24: beside", f -> f.go(3), 0);
        r.asks("25: the last step is another", f -> Check.where(f, 0), 2 * NINETEEN - 387420489);
        r.does("26: lead there", f -> f.lead(2 * NINETEEN), 0);
        r.asks("25: is led there", f -> Check.where(f, 0), 2 * NINETEEN);
    }

    private static void leadRanges() {
        Run r = run().letters(0, 1);
        for (int path : new int[] {0, 1, 2, 3, -1, MIN, MAX}) {
            r.asks("26: no walk, lead(" + path + ")", f -> f.lead(path), -2);
        }
        r.does("23: walk", f -> f.walk(0), 0);
        r.asks("26: to the top, where it is", f -> f.lead(0), 0);
        for (int path : new int[] {1, 2, 3, -1, -3, MIN, MAX}) {
            r.asks("26: at a leaf, lead(" + path + ")", f -> f.lead(path), -1);
        }
    }

    private static void leadNowhere() {
        Run r = run().letters(0, 2);
        r.does("26: a plus a", f -> f.node(2, 0, 1), 2);
        r.does("26: root of it", f -> f.node(7, 2, 0), 3);
        r.does("26: over", f -> f.node(4, 3, 2), 4);
        r.does("23: walk", f -> f.walk(4), 0);
        r.does("26: x, x, y", f -> f.lead(1 + 3 + 2 * 9), 1);
        r.asks("26: as deep as told", f -> Check.where(f, 1), 3);
        r.asks("26: as told", f -> Check.where(f, 0), 22);
        r.asks("26: y of a root", f -> f.lead(1 + 2 * 3), -1);
        r.asks("26: below a leaf", f -> f.lead(1 + 3 + 2 * 9 + 27), -1);
        r.asks("26: below y's leaf", f -> f.lead(2 + 3 + 9), -1);
        r.asks("26: no step first", f -> f.lead(3), -1);
        r.asks("26: no step amid", f -> f.lead(1 + 9), -1);
        r.asks("26: no steps first", f -> f.lead(2 * 9), -1);
        r.asks("26: below 0", f -> f.lead(-1), -1);
        r.asks("26: far below 0", f -> f.lead(MIN), -1);
        r.asks("26: by far too long", f -> f.lead(MAX), -1);
        r.does("26: from the top again, y, x", f -> f.lead(2 + 3), 0);
        r.does("26: to the top", f -> f.lead(0), 4);
        r.asks("26: at the top", f -> Check.where(f, 1), 0);
    }

    private static void leadDeep() {
        Run r = run().letters(0, 1).chain(7, 0, 1, 20);
        r.does("23: walk", f -> f.walk(19), 0);
        r.does("26: 19 steps, to the leaf", f -> f.lead(NINETEEN), 0);
        r.asks("26: 20 steps, below the leaf", f -> f.lead(TWENTY), -1);
        r.does("23: walk from one above", f -> f.walk(20), 0);
        r.does("26: 19 steps, to one above the leaf", f -> f.lead(NINETEEN), 1);
        r.does("26: 20 steps, to the leaf", f -> f.lead(TWENTY), 0);
        r.asks("25: where tells no path there", f -> Check.where(f, 0), Check.ILLEGAL_STATE);
        r.asks("26: 20 steps, the first one y", f -> f.lead(TWENTY + 1), -1);
        r.asks("26: more than 20 steps have no number", f -> f.lead(MAX), -1);
        r.does("26: 18 steps", f -> f.lead(193710244), 2);
    }

    private static void glanceRanges() {
        Run r = run().letters(0, 1);
        for (int n = 0; n <= 9; n++) {
            int most = n;
            r.asks("27: no walk, glance(0, " + n + ")", f -> f.glance(0, most), -2);
        }
        for (int style : new int[] {-1, 8, 9, MIN, MAX}) {
            r.asks("27: no walk, glance(" + style + ", 0) is ahead", f -> f.glance(style, 0), -1);
        }
        for (int n : new int[] {-1, 10, MIN, MAX}) {
            r.asks("27: no walk, glance(0, " + n + ") is ahead", f -> f.glance(0, n), -1);
        }
        r.does("23: walk", f -> f.walk(0), 0);
        for (int style : new int[] {-1, 8, 9, MIN, MAX}) {
            r.asks("27: glance(" + style + ", 0)", f -> f.glance(style, 0), -1);
        }
        for (int n : new int[] {-1, 10, MIN, MAX}) {
            r.asks("27: glance(7, " + n + ")", f -> f.glance(7, n), -1);
        }
        r.asks("27: the first of both", f -> f.glance(0, 0), 1);
        r.asks("27: the last of both", f -> f.glance(7, 9), 1);
    }

    /** What is n below is SAID, what is n + 1 below is one word. */
    private static void glanceDepths() {
        Run r = run();
        r.does("27: 1234", f -> f.leaf(1, 1234), 0);
        r.chain(8, 0, 1, 11);
        for (int node = 0; node <= 11; node++) {
            int here = node;
            r.does("23: walk", f -> f.walk(here), 0);
            for (int n = 0; n <= 9; n++) {
                int most = n;
                int want = n >= node ? 2 * node + 4 : 2 * (n + 1) + 1;
                r.asks("27: " + node + " fences, glance(1, " + n + ")", f -> f.glance(1, most), want);
            }
        }
        r.does("26: what is here, not the top", f -> f.lead(1 + 3), 9);
        r.asks("27: all nine below", f -> f.glance(1, 9), 2 * 9 + 4);
        r.asks("27: all but one", f -> f.glance(1, 8), 2 * 9 + 1);
    }

    private static void glanceWords() {
        Run r = run();
        r.does("27: 9999", f -> f.leaf(1, 9999), 0);
        int[] bare = {3, 3, 3, 3, 3, 2, 3, 3};
        for (int kind = 2; kind <= 9; kind++) {
            int k = kind;
            int n = kind - 1;
            int whole = kind <= 6 ? 9 : kind == 7 ? 5 : 6;
            r.does("27: one of kind " + k, f -> f.node(k, 0, 0), n);
            r.does("23: walk", f -> f.walk(n), 0);
            r.asks("27: kind " + k + ", its parts are a word each", f -> f.glance(1, 0), bare[k - 2]);
            r.asks("27: kind " + k + ", with begin and end", f -> f.glance(0, 0), bare[k - 2] + (k == 8 ? 0 : 2));
            r.asks("27: kind " + k + ", whole", f -> f.glance(1, 1), whole);
            r.asks("27: kind " + k + ", whole and kept", f -> f.glance(0, 1), whole + (k == 8 ? 0 : 2));
        }
    }

    /** Sixteen numbers of four digits and 15 pairs: 79 words. */
    private static void glanceEighty() {
        Run r = run();
        r.does("27: 9999", f -> f.leaf(1, 9999), 0);
        for (int i = 1; i <= 4; i++) {
            int n = i;
            r.does("27: a pair of it", f -> f.node(2, n - 1, n - 1), n);
        }
        r.does("27: root", f -> f.node(7, 4, 0), 5);
        r.does("27: root of root", f -> f.node(7, 5, 0), 6);
        r.does("23: walk", f -> f.walk(5), 0);
        r.asks("27: 80 words", f -> f.glance(1, 5), 80);
        r.does("23: walk", f -> f.walk(6), 0);
        r.asks("27: 81 words", f -> f.glance(1, 6), -5);
        r.asks("27: 81 words, and no such style", f -> f.glance(8, 6), -1);
        r.asks("27: the numbers as one word each", f -> f.glance(1, 5), 33);
        r.asks("27: kept, as one word each", f -> f.glance(0, 5), 33 + 34);
        r.asks("27: kept, whole", f -> f.glance(0, 9), -5);
        r.does("9: roots alone are kept", f -> f.keeps(2, 7, true), 1);
        r.does("23: walk", f -> f.walk(5), 0);
        r.asks("27: 82 words", f -> f.glance(2, 9), -5);
        r.does("24: below the root", f -> f.go(0), 4);
        r.asks("27: 79 words", f -> f.glance(2, 9), 79);
    }
}
