/** Promises 1 to 9, edge by edge: the last that is taken, the first that is refused, and nothing changed by it. */
public final class PageEdgesTest {
    private static final int MIN = Integer.MIN_VALUE;
    private static final int MAX = Integer.MAX_VALUE;
    private static final Check check = new Check("page, edges");

    public static void main(String[] args) {
        newObject();
        newStyles();
        leafValues();
        leafKinds();
        leafRoom();
        nodeKinds();
        nodeParts();
        nodeCalls();
        nodeSizes();
        nodeSizesOfPairs();
        nodeRoom();
        undoToNone();
        undoAndWalk();
        undoWhenFull();
        means();
        meansRight();
        lookRanges();
        lookNoughts();
        lookDepths();
        alike();
        times();
        keepsRanges();
        keepsChanges();
        lastCall();
        check.end();
    }

    private static Run run() {
        return new Run(check);
    }

    private static void newObject() {
        Run r = run();
        r.asks("1: no nodes", f -> f.count(0), 0);
        r.asks("1: no node 0", f -> f.look(0, 0), -1);
        r.asks("1: nothing to undo", f -> f.undo(), -1);
        r.asks("1: an empty ear", f -> f.count(1), 0);
        r.asks("1: no word 0", f -> f.ear(0), -1);
        r.asks("1: nothing to hush", f -> f.hush(), 0);
        r.asks("1: no functions", f -> f.count(2), 0);
        r.asks("1: no walk to go", f -> f.go(2), -2);
        r.asks("1: no walk to lead", f -> f.lead(0), -2);
        r.asks("1: no walk to glance from", f -> f.glance(0, 0), -2);
        for (int what = 0; what <= 2; what++) {
            int w = what;
            r.asks("1: no walk, where(" + w + ")", f -> Check.where(f, w), -2);
        }
        for (int style = 0; style <= 8; style++) {
            int s = style;
            r.asks("1: nothing heard in " + s, f -> Check.readings(f, s), 0);
        }
        for (int shelf = 0; shelf <= 7; shelf++) {
            int d = shelf;
            r.asks("1: nothing on " + d, f -> f.weight(d), -11);
            r.asks("1: nothing to toss on " + d, f -> f.toss(d), -11);
            r.asks("1: nothing to copy on " + d, f -> f.copy(d, 0, d, 0, 0), -11);
            r.asks("1: no element on " + d, f -> Check.element(f, d, 0), Check.ILLEGAL_STATE);
        }
    }

    /** At first style 0 keeps all, others none. */
    private static void newStyles() {
        Run r = run();
        for (int style = 0; style <= 7; style++) {
            for (int kind = 2; kind <= 9; kind++) {
                int s = style;
                int k = kind;
                if (k != 8) {
                    r.asks("1: style " + s + ", kind " + k, f -> f.keeps(s, k, s == 0), 0);
                }
            }
        }
        for (int letter = 0; letter <= 9; letter++) {
            int l = letter;
            r.asks("1: letter " + l + " is no function", f -> f.means(l, false), 0);
        }
    }

    private static void leafValues() {
        Run r = run();
        r.does("2: the least letter", f -> f.leaf(0, 0), 0);
        r.does("2: the greatest letter", f -> f.leaf(0, 9), 1);
        r.does("2: the least number", f -> f.leaf(1, 0), 2);
        r.does("2: the greatest number", f -> f.leaf(1, 9999), 3);
        r.does("2: a number that no letter is", f -> f.leaf(1, 10), 4);
        for (int v : new int[] {-1, 10, MIN, MAX}) {
            r.asks("2: leaf(0, " + v + ")", f -> f.leaf(0, v), -1);
        }
        for (int v : new int[] {-1, 10000, MIN, MAX}) {
            r.asks("2: leaf(1, " + v + ")", f -> f.leaf(1, v), -1);
        }
        r.asks("2: v of the greatest letter", f -> f.look(1, 1), 9);
        r.asks("2: v of the greatest number", f -> f.look(3, 1), 9999);
        r.asks("2: five came", f -> f.count(0), 5);
    }

    private static void leafKinds() {
        Run r = run();
        for (int kind : new int[] {-1, 2, 3, 7, 8, 9, 10, MIN, MAX}) {
            r.asks("2: leaf(" + kind + ", 0)", f -> f.leaf(kind, 0), -1);
        }
        r.does("2: the number of the first", f -> f.leaf(1, 0), 0);
    }

    private static void leafRoom() {
        Run r = run().letters(0, 119);
        r.does("2: the 120th", f -> f.leaf(1, 7), 119);
        r.asks("2: a letter, the 121st", f -> f.leaf(0, 0), -2);
        r.asks("2: a number, the 121st", f -> f.leaf(1, 9999), -2);
        r.asks("2: no such letter, ahead of no room", f -> f.leaf(0, 10), -1);
        r.asks("2: no such number, ahead of no room", f -> f.leaf(1, -1), -1);
        r.asks("2: no such kind, ahead of no room", f -> f.leaf(2, 0), -1);
        r.asks("2: the last one stays", f -> f.look(119, 1), 7);
        r.asks("2: no node 120", f -> f.look(120, 0), -1);
    }

    private static void nodeKinds() {
        Run r = run().letters(0, 1);
        for (int kind : new int[] {-1, 0, 1, 10, 11, MIN, MAX}) {
            r.asks("3: node(" + kind + ", 0, 0)", f -> f.node(kind, 0, 0), -1);
        }
        for (int kind = 2; kind <= 9; kind++) {
            int k = kind;
            r.does("3: node(" + k + ", 0, 0)", f -> f.node(k, 0, 0), k - 1);
            r.asks("3: its kind", f -> f.look(k - 1, 0), k);
        }
    }

    private static void nodeParts() {
        Run r = run();
        for (int kind = 2; kind <= 9; kind++) {
            int k = kind;
            r.asks("3: no nodes, kind " + k, f -> f.node(k, 0, 0), -1);
        }
        r.letters(0, 2);
        for (int kind = 2; kind <= 9; kind++) {
            for (int x : new int[] {-1, 2, 3, MIN, MAX}) {
                int k = kind;
                r.asks("3: node(" + k + ", " + x + ", 0)", f -> f.node(k, x, 0), -1);
            }
        }
        for (int kind = 2; kind <= 6; kind++) {
            for (int y : new int[] {-1, 2, 3, MIN, MAX}) {
                int k = kind;
                r.asks("3: node(" + k + ", 0, " + y + ")", f -> f.node(k, 0, y), -1);
            }
        }
        r.does("3: the last one is taken as x and y", f -> f.node(2, 1, 1), 2);
        r.asks("3: x of it", f -> f.look(2, 2), 1);
        r.asks("3: y of it", f -> f.look(2, 3), 1);
        int n = 3;
        for (int y : new int[] {-1, 3, 120, MIN, MAX}) {
            int next = n;
            r.does("3: a root, y any: " + y, f -> f.node(7, 0, y), next);
            r.does("3: a fenced one, y any: " + y, f -> f.node(8, 0, y), next + 1);
            r.asks("3: the root has no y", f -> f.look(next, 3), -2);
            r.asks("3: the fenced one has no y", f -> f.look(next + 1, 3), -2);
            n += 2;
        }
        r.does("3: undo", f -> f.undo(), n - 1);
        int gone = n - 1;
        r.asks("3: what is gone is no part", f -> f.node(7, gone, 0), -1);
    }

    private static void nodeCalls() {
        Run r = run().letters(0, 1);
        for (int y : new int[] {-1, 10, MIN, MAX}) {
            r.asks("3: node(9, 0, " + y + ")", f -> f.node(9, 0, y), -1);
        }
        r.does("3: the least letter called", f -> f.node(9, 0, 0), 1);
        r.does("3: the greatest letter called, there is no node 9", f -> f.node(9, 1, 9), 2);
        r.asks("3: v of it", f -> f.look(2, 1), 9);
        r.asks("3: a call of a letter, not of a node", f -> f.look(2, 3), -2);
    }

    private static void nodeSizes() {
        for (int kind = 7; kind <= 9; kind++) {
            int k = kind;
            Run r = run().letters(0, 1).chain(7, 0, 1, 38);
            r.does("3: SIZE 40 of kind " + k, f -> f.node(k, 38, 0), 39);
            r.asks("3: it is 40", f -> f.look(39, 4), 40);
            for (int over = 7; over <= 9; over++) {
                int o = over;
                r.asks("3: SIZE 41 of kind " + o, f -> f.node(o, 39, 0), -3);
            }
            r.asks("3: no such letter, ahead of SIZE", f -> f.node(9, 39, 10), -1);
            r.asks("3: no such part, ahead of SIZE", f -> f.node(2, 39, 40), -1);
        }
    }

    private static void nodeSizesOfPairs() {
        // NODE i has SIZE i + 1.
        Run r = run().letters(0, 1).chain(8, 0, 1, 38);
        for (int kind = 2; kind <= 6; kind++) {
            int k = kind;
            r.does("3: 20 and 19, kind " + k, f -> f.node(k, 19, 18), 37 + k);
            r.asks("3: its SIZE", f -> f.look(37 + k, 4), 40);
            r.asks("3: 20 and 20, kind " + k, f -> f.node(k, 19, 19), -3);
            r.asks("3: 38 and 2, kind " + k, f -> f.node(k, 37, 1), -3);
            r.asks("3: 1 and 39, kind " + k, f -> f.node(k, 0, 38), -3);
        }
        r.does("3: the same part twice", f -> f.node(2, 18, 18), 44);
        r.asks("3: is there twice", f -> f.look(44, 4), 39);
        r.does("3: 1 and 38", f -> f.node(2, 0, 37), 45);
        r.asks("3: 40 and 40", f -> f.node(2, 45, 45), -3);
    }

    private static void nodeRoom() {
        Run r = run().letters(0, 1).chain(7, 0, 1, 39).letters(40, 79);
        r.does("3: the 120th", f -> f.node(7, 0, 0), 119);
        for (int kind = 2; kind <= 9; kind++) {
            int k = kind;
            r.asks("3: the 121st, kind " + k, f -> f.node(k, 0, 0), -2);
            r.asks("3: no room, ahead of SIZE, kind " + k, f -> f.node(k, 39, 0), -2);
            r.asks("3: no such part, ahead of no room, kind " + k, f -> f.node(k, 120, 0), -1);
        }
        r.asks("3: no such second part, ahead of no room", f -> f.node(2, 39, 120), -1);
        r.asks("3: no such letter, ahead of no room", f -> f.node(9, 0, 10), -1);
        r.asks("3: no such kind, ahead of no room", f -> f.node(10, 0, 0), -1);
        r.does("3: one goes", f -> f.undo(), 119);
        r.asks("3: room, but SIZE", f -> f.node(7, 39, 0), -3);
    }

    private static void undoToNone() {
        Run r = run();
        r.asks("4: there is none", f -> f.undo(), -1);
        r.letters(0, 2);
        r.does("4: the last", f -> f.undo(), 1);
        r.does("4: the first", f -> f.undo(), 0);
        r.asks("4: there is none again", f -> f.undo(), -1);
        r.does("4: its number comes again", f -> f.leaf(1, 3), 0);
        r.asks("4: as another one", f -> f.look(0, 0), 1);
    }

    private static void undoAndWalk() {
        Run r = run().letters(0, 2);
        r.does("4: a pair", f -> f.node(2, 0, 1), 2);
        r.does("4: a root of it", f -> f.node(7, 2, 0), 3);
        r.does("4: the walk is in a part", f -> f.walk(2), 0);
        r.does("4: whose formula has it not", f -> f.undo(), 3);
        r.asks("4: the walk is at it", f -> f.undo(), -3);
        r.does("4: the walk goes down", f -> f.go(1), 1);
        r.asks("4: the walk is below it", f -> f.undo(), -3);
        r.does("4: one behind it", f -> f.leaf(0, 5), 3);
        r.does("4: goes, though there is a walk", f -> f.undo(), 3);
        r.does("4: another walk", f -> f.walk(1), 0);
        r.does("4: now it goes", f -> f.undo(), 2);
        r.asks("4: the walk is at a leaf", f -> f.undo(), -3);
        r.does("4: the walk is at the first", f -> f.walk(0), 0);
        r.does("4: the second goes", f -> f.undo(), 1);
        r.asks("4: the first stays", f -> f.undo(), -3);
        r.asks("4: one is left", f -> f.count(0), 1);
    }

    private static void undoWhenFull() {
        Run r = run().letters(0, 120);
        r.does("4: the 120th goes", f -> f.undo(), 119);
        r.does("4: and comes", f -> f.leaf(1, 4), 119);
        r.asks("4: full again", f -> f.leaf(1, 4), -2);
    }

    private static void means() {
        Run r = run();
        for (int letter : new int[] {-1, 10, 32, MIN, MAX}) {
            r.asks("5: means(" + letter + ", true)", f -> f.means(letter, true), -1);
            r.asks("5: means(" + letter + ", false)", f -> f.means(letter, false), -1);
        }
        for (int letter = 0; letter <= 9; letter++) {
            int l = letter;
            r.asks("5: it is none", f -> f.means(l, false), 0);
            r.does("5: it becomes one", f -> f.means(l, true), 1);
            r.asks("5: it is one", f -> f.means(l, true), 0);
            r.asks("5: so many", f -> f.count(2), l + 1);
        }
        r.does("5: it is none again", f -> f.means(9, false), 1);
        r.asks("5: nine are left", f -> f.count(2), 9);
    }

    private static void meansRight() {
        Run r = run();
        r.does("6: a", f -> f.leaf(0, 0), 0);
        r.does("6: j", f -> f.leaf(0, 9), 1);
        r.does("6: j of a", f -> f.node(9, 0, 9), 2);
        r.does("6: a of a", f -> f.node(9, 0, 0), 3);
        r.does("6: j of a plus j", f -> f.node(2, 2, 1), 4);
        r.does("6: 9", f -> f.leaf(1, 9), 5);
        r.does("6: j of 9", f -> f.node(9, 5, 9), 6);
        dueRight(r, 1, 1, 0, 0, 0, 1, 0);
        r.does("6: j is a function", f -> f.means(9, true), 1);
        dueRight(r, 1, 0, 1, 0, 0, 1, 1);
        r.does("6: a is one, too", f -> f.means(0, true), 1);
        dueRight(r, 0, 0, 0, 0, 0, 1, 1);
    }

    private static void dueRight(Run r, int... want) {
        for (int n = 0; n < want.length; n++) {
            int node = n;
            r.asks("6: right, node " + n, f -> f.look(node, 6), want[n]);
        }
    }

    private static void lookRanges() {
        Run r = run();
        for (int what = -1; what <= 7; what++) {
            int w = what;
            r.asks("6: no nodes, look(0, " + w + ")", f -> f.look(0, w), -1);
        }
        r.letters(0, 2);
        for (int what = 0; what <= 6; what++) {
            for (int node : new int[] {-1, 2, 120, MIN, MAX}) {
                int w = what;
                r.asks("6: look(" + node + ", " + w + ")", f -> f.look(node, w), -1);
            }
        }
        for (int what : new int[] {-1, 7, MIN, MAX}) {
            r.asks("6: look(1, " + what + ")", f -> f.look(1, what), -1);
        }
        r.asks("6: the first what", f -> f.look(1, 0), 0);
        r.asks("6: the last what", f -> f.look(1, 6), 1);
    }

    /** An answer 0 is not the same as none. */
    private static void lookNoughts() {
        Run r = run();
        r.does("6: a", f -> f.leaf(0, 0), 0);
        r.does("6: 0", f -> f.leaf(1, 0), 1);
        r.does("6: a of a", f -> f.node(9, 0, 0), 2);
        r.does("6: a plus a", f -> f.node(2, 0, 0), 3);
        r.does("6: root a", f -> f.node(7, 0, 0), 4);
        r.does("6: open a close", f -> f.node(8, 0, 0), 5);
        int[][] want = {{0, -2, -2}, {0, -2, -2}, {0, 0, -2}, {-2, 0, 0}, {-2, 0, -2}, {-2, 0, -2}};
        for (int n = 0; n < want.length; n++) {
            for (int what = 1; what <= 3; what++) {
                int node = n;
                int w = what;
                r.asks("6: look(" + node + ", " + w + ")", f -> f.look(node, w), want[n][w - 1]);
            }
        }
    }

    private static void lookDepths() {
        Run r = run().letters(0, 1).chain(8, 0, 1, 39);
        r.asks("6: the least SIZE", f -> f.look(0, 4), 1);
        r.asks("6: the least DEPTH", f -> f.look(0, 5), 1);
        r.asks("6: the greatest SIZE", f -> f.look(39, 4), 40);
        r.asks("6: the greatest DEPTH", f -> f.look(39, 5), 40);
        r.does("6: x is the deeper one", f -> f.node(2, 5, 1), 40);
        r.asks("6: x counts", f -> f.look(40, 5), 7);
        r.does("6: y is the deeper one", f -> f.node(2, 1, 6), 41);
        r.asks("6: y counts", f -> f.look(41, 5), 8);
        r.does("6: both are as deep", f -> f.node(2, 3, 3), 42);
        r.asks("6: both count", f -> f.look(42, 5), 5);
    }

    private static void alike() {
        Run r = run();
        r.asks("7: no nodes", f -> f.alike(0, 0), -1);
        r.letters(0, 2);
        for (int n : new int[] {-1, 2, 120, MIN, MAX}) {
            r.asks("7: alike(" + n + ", 0)", f -> f.alike(n, 0), -1);
            r.asks("7: alike(0, " + n + ")", f -> f.alike(0, n), -1);
        }
        r.asks("7: itself", f -> f.alike(1, 1), 1);
        r.asks("7: another one", f -> f.alike(0, 1), 1);
        r.does("7: one part twice", f -> f.node(3, 0, 0), 2);
        r.does("7: two parts", f -> f.node(3, 1, 0), 3);
        r.asks("7: are the same tree", f -> f.alike(2, 3), 1);
        r.does("7: of another kind", f -> f.node(4, 1, 0), 4);
        r.asks("7: is unlike", f -> f.alike(3, 4), 0);
        r.does("7: root of the one", f -> f.node(7, 2, 5), 5);
        r.does("7: root of the other", f -> f.node(7, 3, 6), 6);
        r.asks("7: y any doesn't matter", f -> f.alike(5, 6), 1);
        r.does("7: the number 0", f -> f.leaf(1, 0), 7);
        r.asks("7: is not the letter 0", f -> f.alike(0, 7), 0);
        r.does("7: a call of a", f -> f.node(9, 0, 0), 8);
        r.does("7: a call of b", f -> f.node(9, 0, 1), 9);
        r.asks("7: of other letters", f -> f.alike(8, 9), 0);
        r.does("7: b goes", f -> f.undo(), 9);
        r.asks("7: what is gone", f -> f.alike(8, 9), -1);
        r.does("7: a comes for it", f -> f.node(9, 1, 0), 9);
        r.asks("7: alike now", f -> f.alike(8, 9), 1);
    }

    private static void times() {
        Run r = run();
        r.asks("8: no nodes", f -> f.times(0, 0), -1);
        r.letters(0, 2);
        for (int n : new int[] {-1, 2, 120, MIN, MAX}) {
            r.asks("8: times(" + n + ", 0)", f -> f.times(n, 0), -1);
            r.asks("8: times(0, " + n + ")", f -> f.times(0, n), -1);
        }
        r.asks("8: itself", f -> f.times(0, 0), 1);
        r.asks("8: one like itself", f -> f.times(0, 1), 1);
        r.does("8: a plus a", f -> f.node(2, 0, 0), 2);
        r.asks("8: twice", f -> f.times(2, 1), 2);
        r.asks("8: a whole in its part", f -> f.times(1, 2), 0);
        r.does("8: of two, 5", f -> f.node(2, 2, 0), 3);
        r.does("8: of two, 11", f -> f.node(2, 3, 3), 4);
        r.does("8: of two, 23", f -> f.node(2, 4, 4), 5);
        r.does("8: of two, 35", f -> f.node(2, 5, 4), 6);
        r.does("8: of two, exchanged", f -> f.node(2, 4, 5), 7);
        r.asks("8: its SIZE", f -> f.look(6, 4), 35);
        r.asks("8: all leaves", f -> f.times(6, 1), 18);
        r.asks("8: pairs below", f -> f.times(6, 2), 6);
        r.asks("8: x and y exchanged", f -> f.times(6, 7), 0);
        r.does("8: an unlike letter", f -> f.leaf(0, 1), 8);
        r.asks("8: is not there", f -> f.times(6, 8), 0);
    }

    private static void keepsRanges() {
        Run r = run();
        for (int kind : new int[] {-1, 0, 1, 8, 10, 32 + 2, 32 + 9, MIN, MAX}) {
            r.asks("9: keeps(0, " + kind + ", false)", f -> f.keeps(0, kind, false), -1);
            r.asks("9: keeps(1, " + kind + ", true)", f -> f.keeps(1, kind, true), -1);
        }
        for (int style : new int[] {-1, 8, 9, MIN, MAX}) {
            r.asks("9: keeps(" + style + ", 2, true)", f -> f.keeps(style, 2, true), -1);
            r.asks("9: keeps(" + style + ", 9, false)", f -> f.keeps(style, 9, false), -1);
            r.asks("9: keeps(" + style + ", 8, false)", f -> f.keeps(style, 8, false), -1);
        }
    }

    private static void keepsChanges() {
        Run r = run();
        for (int style : new int[] {0, 1, 7}) {
            boolean first = style == 0;
            for (int kind : new int[] {2, 6, 7, 9}) {
                String told = "9: style " + style + ", kind " + kind;
                r.asks(told + ", as it was", f -> f.keeps(style, kind, first), 0);
                r.does(told + ", changed", f -> f.keeps(style, kind, !first), 1);
                r.asks(told + ", as it is", f -> f.keeps(style, kind, !first), 0);
            }
        }
        r.asks("9: another kind is as it was", f -> f.keeps(7, 5, false), 0);
        r.asks("9: another style is as it was", f -> f.keeps(6, 2, false), 0);
        r.does("9: and back", f -> f.keeps(7, 2, false), 1);
    }

    /** An object is good for 512 calls: the last one is answered as the first. */
    private static void lastCall() {
        Run r = run();
        for (int i = 0; i < 119; i++) {
            int n = i;
            r.does("call " + (i + 1), f -> f.leaf(1, 9999), n);
        }
        for (int i = 119; i < 511; i += 2) {
            r.does("call " + (i + 1), f -> f.leaf(0, 9), 119);
            r.does("call " + (i + 2), f -> f.undo(), 119);
        }
        r.does("call 512", f -> f.leaf(0, 9), 119);
    }
}
