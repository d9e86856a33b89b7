/** Promises 28 to 36, edge by edge: the last that is taken, the first that is refused, and nothing changed by it. */
public final class TwoLinesEdgesTest {
    private static final int MIN = Integer.MIN_VALUE;
    private static final int MAX = Integer.MAX_VALUE;
    private static final int BYTES = 3;
    private static final int CHARS = 4;
    private static final Check check = new Check("two lines, edges");

    public static void main(String[] args) {
        differenceRanges();
        differenceOfLeaves();
        differenceOfKinds();
        greatestDifference();
        deepestDifference();
        countRanges();
        countMost();
        keepRanges();
        keepEachShelf();
        keepEar();
        keepKinds();
        keepInPlace();
        makeRanges();
        makeSizes();
        makeAnew();
        elementRanges();
        elementOfWhat();
        copyShelves();
        copyKinds();
        copyPlaces();
        copyNone();
        copyWithin();
        copyWhole();
        weightRanges();
        weights();
        tossRanges();
        tosses();
        heldNode();
        check.end();
    }

    private static Run run() {
        return new Run(check);
    }

    private static void dueRow(String told, Run r, int d, int... want) {
        for (int i = 0; i < want.length; i++) {
            int at = i;
            r.asks(told + ", element " + i, f -> Check.element(f, d, at), want[i]);
        }
        r.asks(told + ", no more", f -> Check.element(f, d, want.length), Check.ILLEGAL_STATE);
    }

    // ---- promises 28 to 30

    private static void differenceRanges() {
        Run r = run();
        r.asks("28: no nodes", f -> f.changed(0, 0), -1);
        r.asks("29: no nodes", f -> f.exchanged(0, 0), -1);
        r.letters(0, 2);
        for (int n : new int[] {-1, 2, 120, MIN, MAX}) {
            r.asks("28: changed(" + n + ", 0)", f -> f.changed(n, 0), -1);
            r.asks("28: changed(0, " + n + ")", f -> f.changed(0, n), -1);
            r.asks("29: exchanged(" + n + ", 0)", f -> f.exchanged(n, 0), -1);
            r.asks("29: exchanged(0, " + n + ")", f -> f.exchanged(0, n), -1);
        }
        r.asks("28: itself", f -> f.changed(1, 1), 0);
        r.asks("29: itself", f -> f.exchanged(1, 1), 0);
        r.asks("28: one that is alike", f -> f.changed(0, 1), 0);
        r.asks("29: one that is alike", f -> f.exchanged(0, 1), 0);
    }

    private static void due(Run r, int node, int other, int changed, int exchanged) {
        String told = "(" + node + ", " + other + ")";
        r.asks("28: changed" + told, f -> f.changed(node, other), changed);
        r.asks("29: exchanged" + told, f -> f.exchanged(node, other), exchanged);
        r.asks("28: changed" + told + ", the other way round", f -> f.changed(other, node), changed);
        r.asks("29: exchanged" + told + ", the other way round", f -> f.exchanged(other, node), exchanged);
    }

    /** Another v costs 1, whichever; another KIND both SIZES. */
    private static void differenceOfLeaves() {
        Run r = run();
        r.does("2: a", f -> f.leaf(0, 0), 0);
        r.does("2: j", f -> f.leaf(0, 9), 1);
        r.does("2: 0", f -> f.leaf(1, 0), 2);
        r.does("2: 9999", f -> f.leaf(1, 9999), 3);
        due(r, 0, 1, 1, 0);
        due(r, 2, 3, 1, 0);
        due(r, 0, 2, 2, 1);
        due(r, 1, 3, 2, 1);
    }

    private static void differenceOfKinds() {
        Run r = run().letters(0, 1);
        r.does("2: b", f -> f.leaf(0, 1), 1);
        for (int kind = 2; kind <= 9; kind++) {
            int k = kind;
            r.does("3: kind " + k + " of a", f -> f.node(k, 0, 0), 2 * k - 2);
            r.does("3: kind " + k + " of b", f -> f.node(k, 1, 1), 2 * k - 1);
            // Two PARTS are changed, or one, and of a CALL its letter, too.
            due(r, 2 * k - 2, 2 * k - 1, k <= 6 || k == 9 ? 2 : 1, 0);
            due(r, 2 * k - 2, 0, k <= 6 ? 4 : 3, 1);
        }
        due(r, 2, 4, 6, 1);
        due(r, 2, 12, 5, 1);
        due(r, 12, 14, 4, 1);
        due(r, 14, 16, 4, 1);
        r.does("3: (a plus a) over root a", f -> f.node(4, 2, 12), 18);
        r.does("3: (b times b) over root b", f -> f.node(4, 5, 13), 19);
        r.does("3: (b times b) over open b close", f -> f.node(4, 5, 15), 20);
        due(r, 18, 19, 6 + 1, 1);
        due(r, 18, 20, 6 + 4, 2);
    }

    private static void greatestDifference() {
        Run r = run().letters(0, 1).chain(7, 0, 1, 39);
        r.chain(8, 0, 40, 39);
        r.asks("6: SIZE 40", f -> f.look(39, 4), 40);
        r.asks("6: SIZE 40", f -> f.look(78, 4), 40);
        due(r, 39, 78, 80, 1);
        due(r, 39, 0, 41, 1);
        due(r, 39, 38, 1 + 2, 1);
    }

    private static void deepestDifference() {
        Run r = run().letters(0, 1);
        r.does("2: 5", f -> f.leaf(1, 5), 1);
        r.chain(7, 0, 2, 39);
        r.chain(7, 1, 41, 39);
        due(r, 40, 79, 2, 1);
        Run pairs = run().letters(0, 1);
        pairs.does("2: 5", f -> f.leaf(1, 5), 1);
        for (int i = 1; i <= 19; i++) {
            int n = 2 * i;
            pairs.does("3: a pair", f -> f.node(3, 0, n == 2 ? 0 : n - 2), n);
            pairs.does("3: its other", f -> f.node(3, 1, n == 2 ? 1 : n - 1), n + 1);
        }
        due(pairs, 38, 39, 40, 20);
    }

    private static void countRanges() {
        Run r = run();
        for (int what : new int[] {-1, 3, 4, MIN, MAX}) {
            r.asks("30: count(" + what + ")", f -> f.count(what), -1);
        }
        for (int what = 0; what <= 2; what++) {
            int w = what;
            r.asks("30: count(" + w + ")", f -> f.count(w), 0);
        }
    }

    private static void countMost() {
        Run r = run().letters(0, 120);
        for (int i = 1; i <= 4; i++) {
            int many = 5 * i;
            r.does("14: hear", f -> f.hear(5, 0), many);
        }
        for (int letter = 0; letter <= 9; letter++) {
            int l = letter;
            r.does("5: a function", f -> f.means(l, true), 1);
        }
        r.asks("30: nodes", f -> f.count(0), 120);
        r.asks("30: words", f -> f.count(1), 20);
        r.asks("30: functions", f -> f.count(2), 10);
        r.asks("30: no room for a node", f -> f.leaf(0, 0), -2);
        r.asks("30: no room for a word", f -> f.hear(1, 0), -2);
        r.asks("30: no letter more", f -> f.means(10, true), -1);
    }

    // ---- promises 31 to 33

    private static void keepRanges() {
        Run r = run();
        r.asks("31: no nodes", f -> f.keep(0, 1, 0), -1);
        r.asks("31: no nodes, their kinds", f -> f.keep(0, 4, 0), -1);
        r.letters(0, 2).words(7, 8);
        for (int round = 0; round < 2; round++) {
            for (int d : new int[] {-1, 8, MIN, MAX}) {
                for (int what = 0; what <= 4; what++) {
                    int w = what;
                    r.asks("31: keep(" + d + ", " + w + ", 0)", f -> f.keep(d, w, 0), -1);
                }
            }
            for (int what : new int[] {-1, 2, 5, MIN, MAX}) {
                r.asks("31: keep(0, " + what + ", 0)", f -> f.keep(0, what, 0), -1);
            }
            for (int k : new int[] {-1, 2, 120, MIN, MAX}) {
                r.asks("31: keep(0, 1, " + k + ")", f -> f.keep(0, 1, k), -1);
                r.asks("31: keep(0, 4, " + k + ")", f -> f.keep(0, 4, k), -1);
            }
            // The same again, with something on the SHELF that must stay.
            r.does("31: k any for the ear", f -> f.keep(0, 3, MIN), 0);
        }
        dueRow("31: the ear", r, 0, 7, 8);
        r.does("31: k any for nothing", f -> f.keep(0, 0, MAX), 0);
        r.asks("31: nothing", f -> f.weight(0), -11);
        r.does("31: the last node", f -> f.keep(0, 1, 1), 0);
        r.asks("31: is held", f -> f.weight(0), 11);
        r.does("31: its kinds", f -> f.keep(0, 4, 1), 0);
        dueRow("31: its kinds", r, 0, 0);
    }

    private static void keepEachShelf() {
        Run r = run();
        for (int shelf = 0; shelf <= 7; shelf++) {
            int d = shelf;
            r.does("2: a number", f -> f.leaf(1, 100 * d), d);
            r.does("31: keep(" + d + ", 1, " + d + ")", f -> f.keep(d, 1, d), 0);
        }
        for (int shelf = 0; shelf <= 7; shelf++) {
            int d = shelf;
            r.asks("31: on shelf " + d, f -> f.toss(d), 100 * d);
        }
        r.does("31: nothing on the last", f -> f.keep(7, 0, 0), 0);
        r.asks("31: nothing", f -> f.toss(7), -11);
        r.asks("31: the others stay", f -> f.toss(6), 600);
    }

    private static void keepEar() {
        Run r = run();
        r.does("31: an empty ear", f -> f.keep(2, 3, 0), 0);
        dueRow("31: an empty ear", r, 2);
        r.asks("31: a row all the same", f -> f.weight(2), -12);
        r.words(0, 1, 2, 3, 4, 5, 6, 7, 8, 9, 10, 20, 22, 24, 25, 26, 27, 28, 29, 30);
        r.asks("31: the row is as it was", f -> Check.element(f, 2, 0), Check.ILLEGAL_STATE);
        r.does("31: twenty words", f -> f.keep(2, 3, 0), 0);
        r.does("16: hush", f -> f.hush(), 20);
        dueRow("31: twenty words", r, 2, 0, 1, 2, 3, 4, 5, 6, 7, 8, 9, 10, 20, 22, 24, 25, 26, 27, 28, 29, 30);
        r.words(4);
        r.does("31: one word", f -> f.keep(2, 3, 0), 0);
        dueRow("31: one word", r, 2, 4);
    }

    /** A NODE ahead of its PARTS, x ahead of y; what is a PART twice is there twice. */
    private static void keepKinds() {
        Run r = run().letters(0, 1);
        r.does("2: 5", f -> f.leaf(1, 5), 1);
        r.does("3: a power 5", f -> f.node(5, 0, 1), 2);
        r.does("3: j of it", f -> f.node(9, 2, 9), 3);
        r.does("3: fenced", f -> f.node(8, 3, 0), 4);
        r.does("3: index", f -> f.node(6, 2, 4), 5);
        r.does("3: twice", f -> f.node(3, 2, 2), 6);
        r.does("31: kinds", f -> f.keep(1, 4, 5), 0);
        dueRow("31: kinds", r, 1, 6, 5, 0, 1, 8, 9, 5, 0, 1);
        r.does("31: a part twice", f -> f.keep(1, 4, 6), 0);
        dueRow("31: a part twice", r, 1, 3, 5, 0, 1, 5, 0, 1);
        r.does("31: one", f -> f.keep(1, 4, 1), 0);
        dueRow("31: one", r, 1, 1);
        r.chain(7, 0, 7, 39);
        r.does("31: forty", f -> f.keep(1, 4, 45), 0);
        r.asks("31: the first of forty", f -> Check.element(f, 1, 0), 7);
        r.asks("31: the 39th of forty", f -> Check.element(f, 1, 38), 7);
        r.asks("31: the last of forty", f -> Check.element(f, 1, 39), 0);
        r.asks("31: no 41st", f -> Check.element(f, 1, 40), Check.ILLEGAL_STATE);
    }

    /** What comes to a SHELF takes the place of what was there, whatever both are. */
    private static void keepInPlace() {
        for (int before = 0; before <= 4; before++) {
            for (int behind = 0; behind <= 4; behind++) {
                if (before == 2 || behind == 2) {
                    continue;
                }
                int one = before;
                int two = behind;
                Run r = run();
                r.does("2: 77", f -> f.leaf(1, 77), 0);
                r.words(6, 20, 6);
                r.does("31: what was there", f -> f.keep(4, one, 0), 0);
                r.does("31: what comes", f -> f.keep(4, two, 0), 0);
                r.asks("31: its weight", f -> f.weight(4), two == 0 ? -11 : two == 1 ? 88 : -12);
                r.asks("31: its first", f -> Check.element(f, 4, 0),
                        two < 3 ? Check.ILLEGAL_STATE : two == 3 ? 6 : 1);
                r.asks("31: its third", f -> Check.element(f, 4, 2), two == 3 ? 6 : Check.ILLEGAL_STATE);
            }
        }
    }

    private static void makeRanges() {
        Run r = run();
        for (int round = 0; round < 2; round++) {
            for (int d : new int[] {-1, 8, MIN, MAX}) {
                r.asks("32: make(" + d + ", 3, 1)", f -> f.make(d, BYTES, 1), -1);
                r.asks("32: make(" + d + ", 4, -1), ahead of -14", f -> f.make(d, CHARS, -1), -1);
            }
            for (int what : new int[] {-1, 0, 1, 2, 5, MIN, MAX}) {
                r.asks("32: make(0, " + what + ", 1)", f -> f.make(0, what, 1), -1);
                r.asks("32: make(0, " + what + ", -1), ahead of -14", f -> f.make(0, what, -1), -1);
            }
            for (int what = BYTES; what <= CHARS; what++) {
                int w = what;
                for (int n : new int[] {61, 62, MAX}) {
                    r.asks("32: make(0, " + w + ", " + n + ")", f -> f.make(0, w, n), -1);
                }
                for (int n : new int[] {-1, -2, MIN}) {
                    r.asks("32: make(0, " + w + ", " + n + ")", f -> f.make(0, w, n), -14);
                }
            }
            // The same again, with something on the SHELF that must stay.
            r.does("32: a row", f -> f.make(0, CHARS, 2), 0);
        }
        dueRow("32: it stays", r, 0, 0, 0);
    }

    private static void makeSizes() {
        for (int what = BYTES; what <= CHARS; what++) {
            for (int n : new int[] {0, 1, 59, 60}) {
                int w = what;
                Run r = run();
                r.does("32: make(7, " + w + ", " + n + ")", f -> f.make(7, w, n), 0);
                r.asks("32: the first", f -> Check.element(f, 7, 0), n == 0 ? Check.ILLEGAL_STATE : 0);
                r.asks("32: the last", f -> Check.element(f, 7, n - 1), n == 0 ? Check.ILLEGAL_STATE : 0);
                r.asks("32: no more", f -> Check.element(f, 7, n), Check.ILLEGAL_STATE);
                r.asks("32: no node", f -> f.weight(7), -12);
                r.does("32: of that kind", f -> f.make(6, w, 1), 0);
                r.asks("32: of that kind", f -> f.copy(7, 0, 6, 0, 0), 0);
                r.does("32: of the other kind", f -> f.make(6, BYTES + CHARS - w, 1), 0);
                r.asks("32: not of the other kind", f -> f.copy(7, 0, 6, 0, 0), -12);
            }
        }
    }

    /** A new ROW is all 0, whatever was there. */
    private static void makeAnew() {
        Run r = run().letters(0, 1).chain(7, 0, 1, 39);
        r.does("31: forty kinds", f -> f.keep(0, 4, 39), 0);
        r.does("32: three", f -> f.make(0, BYTES, 3), 0);
        dueRow("32: three", r, 0, 0, 0, 0);
        r.does("31: forty kinds again", f -> f.keep(0, 4, 39), 0);
        r.does("31: one kind", f -> f.keep(0, 4, 0), 0);
        r.does("32: sixty", f -> f.make(0, CHARS, 60), 0);
        for (int i = 0; i < 60; i++) {
            int at = i;
            r.asks("32: element " + i, f -> Check.element(f, 0, at), 0);
        }
    }

    private static void elementRanges() {
        Run r = run();
        r.does("32: a row on each end", f -> f.make(0, BYTES, 2), 0);
        r.does("32: a row on each end", f -> f.make(7, CHARS, 60), 0);
        for (int d : new int[] {-1, 8, MIN, MAX}) {
            for (int i : new int[] {-1, 0, 60}) {
                r.asks("33: element(" + d + ", " + i + ")", f -> Check.element(f, d, i), Check.ILLEGAL_ARGUMENT);
            }
        }
        for (int i : new int[] {-1, 2, 59, 60, MIN, MAX}) {
            r.asks("33: element(0, " + i + ")", f -> Check.element(f, 0, i), Check.ILLEGAL_STATE);
        }
        for (int i : new int[] {-1, 60, 61, MIN, MAX}) {
            r.asks("33: element(7, " + i + ")", f -> Check.element(f, 7, i), Check.ILLEGAL_STATE);
        }
        r.asks("33: the first", f -> Check.element(f, 0, 0), 0);
        r.asks("33: the last of two", f -> Check.element(f, 0, 1), 0);
        r.asks("33: the last of sixty", f -> Check.element(f, 7, 59), 0);
    }

    private static void elementOfWhat() {
        Run r = run().letters(0, 1).words(30);
        r.asks("33: nothing", f -> Check.element(f, 3, 0), Check.ILLEGAL_STATE);
        r.does("31: a node", f -> f.keep(3, 1, 0), 0);
        r.asks("33: a node", f -> Check.element(f, 3, 0), Check.ILLEGAL_STATE);
        r.does("31: words", f -> f.keep(3, 3, 0), 0);
        r.asks("33: a byte", f -> Check.element(f, 3, 0), 30);
        r.does("31: kinds", f -> f.keep(3, 4, 0), 0);
        r.asks("33: a char", f -> Check.element(f, 3, 0), 0);
        r.does("31: nothing", f -> f.keep(3, 0, 0), 0);
        r.asks("33: nothing again", f -> Check.element(f, 3, 0), Check.ILLEGAL_STATE);
    }

    // ---- promise 34

    /** SHELF 0 has bytes 1 .. 5, 1 three bytes, 2 chars, 3 a NODE, 7 nothing. */
    private static Run shelves() {
        Run r = run().letters(0, 1).words(1, 2, 3, 4, 5);
        r.does("31: words", f -> f.keep(0, 3, 0), 0);
        r.does("32: bytes", f -> f.make(1, BYTES, 3), 0);
        r.does("32: chars", f -> f.make(2, CHARS, 3), 0);
        r.does("31: a node", f -> f.keep(3, 1, 0), 0);
        return r;
    }

    private static void copyShelves() {
        Run r = shelves();
        for (int d : new int[] {-1, 8, MIN, MAX}) {
            r.asks("34: from " + d, f -> f.copy(d, 0, 1, 0, 1), -1);
            r.asks("34: to " + d, f -> f.copy(0, 0, d, 0, 1), -1);
            r.asks("34: from " + d + ", ahead of -11", f -> f.copy(d, 0, 7, 0, 1), -1);
            r.asks("34: to " + d + ", ahead of -11", f -> f.copy(7, 0, d, 0, 1), -1);
            r.asks("34: to " + d + ", ahead of -12", f -> f.copy(3, 0, d, 0, 1), -1);
            r.asks("34: to " + d + ", ahead of -13", f -> f.copy(0, -1, d, 0, 1), -1);
        }
        r.asks("34: from nothing", f -> f.copy(7, 0, 1, 0, 1), -11);
        r.asks("34: to nothing", f -> f.copy(0, 0, 7, 0, 1), -11);
        r.asks("34: from nothing to nothing", f -> f.copy(6, 0, 7, 0, 0), -11);
        r.asks("34: from nothing, ahead of -12", f -> f.copy(7, 0, 3, 0, 1), -11);
        r.asks("34: to nothing, ahead of -12", f -> f.copy(3, 0, 7, 0, 1), -11);
        r.asks("34: from nothing, ahead of -13", f -> f.copy(7, -1, 1, 0, 1), -11);
        r.asks("34: to nothing, ahead of -13", f -> f.copy(0, 0, 7, 0, -1), -11);
    }

    private static void copyKinds() {
        Run r = shelves();
        r.asks("34: from a node", f -> f.copy(3, 0, 1, 0, 1), -12);
        r.asks("34: to a node", f -> f.copy(0, 0, 3, 0, 1), -12);
        r.asks("34: from a node to itself", f -> f.copy(3, 0, 3, 0, 0), -12);
        r.asks("34: from bytes to chars", f -> f.copy(0, 0, 2, 0, 1), -12);
        r.asks("34: from chars to bytes", f -> f.copy(2, 0, 0, 0, 1), -12);
        r.asks("34: none of them", f -> f.copy(2, 0, 0, 0, 0), -12);
        r.asks("34: from a node, ahead of -13", f -> f.copy(3, -1, 1, 0, 1), -12);
        r.asks("34: to a node, ahead of -13", f -> f.copy(0, 0, 3, -1, 1), -12);
        r.asks("34: to chars, ahead of -13", f -> f.copy(0, 0, 2, 0, 99), -12);
    }

    private static void copyPlaces() {
        Run r = shelves();
        for (int n : new int[] {-1, MIN}) {
            r.asks("34: n " + n, f -> f.copy(0, 0, 1, 0, n), -13);
            r.asks("34: n " + n + ", amid", f -> f.copy(0, 1, 1, 1, n), -13);
            r.asks("34: i " + n, f -> f.copy(0, n, 1, 0, 1), -13);
            r.asks("34: i " + n + ", none", f -> f.copy(0, n, 1, 0, 0), -13);
            r.asks("34: j " + n, f -> f.copy(0, 0, 1, n, 1), -13);
            r.asks("34: j " + n + ", none", f -> f.copy(0, 0, 1, n, 0), -13);
        }
        for (int far : new int[] {6, 60, 61, MAX}) {
            r.asks("34: i " + far, f -> f.copy(0, far, 1, 0, 1), -13);
            r.asks("34: i " + far + ", none", f -> f.copy(0, far, 1, 0, 0), -13);
            r.asks("34: j " + far, f -> f.copy(0, 0, 1, far, 1), -13);
            r.asks("34: j " + far + ", none", f -> f.copy(0, 0, 1, far, 0), -13);
            r.asks("34: n " + far, f -> f.copy(0, 0, 1, 0, far), -13);
            r.asks("34: n " + far + ", from 1", f -> f.copy(0, 1, 1, 1, far), -13);
            r.asks("34: all " + far, f -> f.copy(0, far, 1, far, far), -13);
        }
        r.asks("34: one beyond the first's end", f -> f.copy(0, 3, 1, 0, 3), -13);
        r.asks("34: at the first's end", f -> f.copy(0, 5, 1, 0, 1), -13);
        r.asks("34: one beyond the second's end", f -> f.copy(0, 0, 1, 1, 3), -13);
        r.asks("34: at the second's end", f -> f.copy(0, 0, 1, 3, 1), -13);
        r.asks("34: the second is too short", f -> f.copy(0, 0, 1, 0, 4), -13);
        r.asks("34: the first is too short", f -> f.copy(1, 0, 0, 0, 4), -13);
        r.does("34: up to the first's end", f -> f.copy(0, 2, 1, 0, 3), 3);
        dueRow("34: what came", r, 1, 3, 4, 5);
        dueRow("34: what it came from", r, 0, 1, 2, 3, 4, 5);
        r.does("34: up to the second's end", f -> f.copy(0, 0, 1, 2, 1), 1);
        dueRow("34: what came then", r, 1, 3, 4, 1);
        r.does("34: up to both ends", f -> f.copy(1, 1, 0, 3, 2), 2);
        dueRow("34: what came back", r, 0, 1, 2, 3, 4, 1);
    }

    private static void copyNone() {
        Run r = shelves();
        r.asks("34: none", f -> f.copy(0, 0, 1, 0, 0), 0);
        r.asks("34: none, at both ends", f -> f.copy(0, 5, 1, 3, 0), 0);
        r.asks("34: none, beyond the first's end", f -> f.copy(0, 6, 1, 3, 0), -13);
        r.asks("34: none, beyond the second's end", f -> f.copy(0, 5, 1, 4, 0), -13);
        r.does("32: a row of none", f -> f.make(4, BYTES, 0), 0);
        r.asks("34: none, from a row of none", f -> f.copy(4, 0, 1, 0, 0), 0);
        r.asks("34: none, to a row of none", f -> f.copy(1, 0, 4, 0, 0), 0);
        r.asks("34: one, from a row of none", f -> f.copy(4, 0, 1, 0, 1), -13);
        r.asks("34: one, to a row of none", f -> f.copy(1, 0, 4, 0, 1), -13);
        r.asks("34: none, behind a row of none", f -> f.copy(4, 1, 1, 0, 0), -13);
    }

    /** As they all were before. */
    private static void copyWithin() {
        Run up = shelves();
        up.does("34: upwards", f -> f.copy(0, 0, 0, 1, 4), 4);
        dueRow("34: upwards", up, 0, 1, 1, 2, 3, 4);
        Run down = shelves();
        down.does("34: downwards", f -> f.copy(0, 1, 0, 0, 4), 4);
        dueRow("34: downwards", down, 0, 2, 3, 4, 5, 5);
        Run same = shelves();
        same.asks("34: on itself", f -> f.copy(0, 0, 0, 0, 5), 5);
        same.asks("34: beyond its end", f -> f.copy(0, 0, 0, 1, 5), -13);
        Run kinds = run().letters(0, 1).chain(8, 0, 1, 2);
        kinds.does("31: kinds", f -> f.keep(5, 4, 2), 0);
        kinds.does("34: chars, upwards", f -> f.copy(5, 1, 5, 0, 2), 2);
        dueRow("34: chars", kinds, 5, 8, 0, 0);
    }

    private static void copyWhole() {
        Run r = run().letters(0, 1).chain(7, 0, 1, 39);
        r.does("31: forty kinds", f -> f.keep(0, 4, 39), 0);
        r.does("32: sixty", f -> f.make(1, CHARS, 60), 0);
        r.asks("34: 41 of forty", f -> f.copy(0, 0, 1, 0, 41), -13);
        r.asks("34: forty to 21 on", f -> f.copy(0, 0, 1, 21, 40), -13);
        r.does("34: forty to 20 on", f -> f.copy(0, 0, 1, 20, 40), 40);
        r.asks("34: ahead of them", f -> Check.element(f, 1, 19), 0);
        r.asks("34: the first of them", f -> Check.element(f, 1, 20), 7);
        r.asks("34: the last but one", f -> Check.element(f, 1, 58), 7);
        r.asks("34: the last of them", f -> Check.element(f, 1, 59), 0);
        r.does("34: sixty to another", f -> f.make(2, CHARS, 60), 0);
        r.does("34: sixty to another", f -> f.copy(1, 0, 2, 0, 60), 60);
        r.asks("34: 61 to another", f -> f.copy(1, 0, 2, 0, 61), -13);
        r.does("34: a row that is copied is another", f -> f.make(1, CHARS, 60), 0);
        r.asks("34: and stays", f -> Check.element(f, 2, 58), 7);
    }

    // ---- promises 35 and 36

    private static void weightRanges() {
        Run r = shelves();
        for (int d : new int[] {-1, 8, MIN, MAX}) {
            r.asks("35: weight(" + d + ")", f -> f.weight(d), -1);
        }
        r.asks("35: nothing", f -> f.weight(7), -11);
        r.asks("35: bytes", f -> f.weight(0), -12);
        r.asks("35: chars", f -> f.weight(2), -12);
        r.asks("35: a node", f -> f.weight(3), 11);
        r.does("31: nothing on it", f -> f.keep(3, 0, 0), 0);
        r.asks("35: nothing again", f -> f.weight(3), -11);
    }

    private static void weights() {
        Run r = run();
        r.does("2: j", f -> f.leaf(0, 9), 0);
        r.does("2: 0", f -> f.leaf(1, 0), 1);
        r.does("2: 9999", f -> f.leaf(1, 9999), 2);
        r.does("2: a", f -> f.leaf(0, 0), 3);
        int[] want = {11, 11, 10010, 11, 13, 13, 13, 113, 113, 12, 24, 1012};
        for (int kind = 2; kind <= 9; kind++) {
            int k = kind;
            r.does("3: kind " + k, f -> f.node(k, 2, 2), k + 2);
        }
        for (int n = 0; n < want.length; n++) {
            int node = n;
            r.does("31: keep", f -> f.keep(0, 1, node), 0);
            r.asks("35: node " + n, f -> f.weight(0), want[n]);
        }
        Run big = run().letters(0, 1).chain(7, 0, 1, 38);
        int[] most = {50, 100, 1050};
        for (int kind = 7; kind <= 9; kind++) {
            int k = kind;
            big.does("3: SIZE 40, kind " + k, f -> f.node(k, 38, 0), k + 32);
            big.does("31: keep", f -> f.keep(7, 1, k + 32), 0);
            big.asks("35: SIZE 40, kind " + k, f -> f.weight(7), most[k - 7]);
        }
        for (int kind = 2; kind <= 6; kind++) {
            int k = kind;
            big.does("3: SIZE 40 of two parts", f -> f.node(k, 37, 0), k + 40);
            big.does("31: keep", f -> f.keep(7, 1, k + 40), 0);
            big.asks("35: SIZE 40 of two parts, kind " + k, f -> f.weight(7), k <= 4 ? 50 : 150);
        }
    }

    private static void tossRanges() {
        Run r = shelves();
        for (int d : new int[] {-1, 8, MIN, MAX}) {
            r.asks("36: toss(" + d + ")", f -> f.toss(d), -1);
        }
        r.asks("36: nothing", f -> f.toss(7), -11);
        r.asks("36: bytes", f -> f.toss(0), -12);
        r.asks("36: chars", f -> f.toss(2), -12);
        r.asks("36: a letter", f -> f.toss(3), 0);
        r.asks("36: again", f -> f.toss(3), 0);
    }

    private static void tosses() {
        Run r = run();
        r.does("2: a", f -> f.leaf(0, 0), 0);
        r.does("2: j", f -> f.leaf(0, 9), 1);
        r.does("2: 0", f -> f.leaf(1, 0), 2);
        r.does("2: 9999", f -> f.leaf(1, 9999), 3);
        r.does("3: a of 9999", f -> f.node(9, 3, 0), 4);
        r.does("3: j of 9999", f -> f.node(9, 3, 9), 5);
        for (int kind = 2; kind <= 8; kind++) {
            int k = kind;
            r.does("3: kind " + k, f -> f.node(k, 3, 3), k + 4);
        }
        int[] want = {0, 9, 0, 9999, 0, 9, -15, -15, -15, -15, -15, -15, -15};
        for (int n = 0; n < want.length; n++) {
            int node = n;
            r.does("31: keep", f -> f.keep(5, 1, node), 0);
            r.asks("36: node " + n, f -> f.toss(5), want[n]);
        }
    }

    /** A SHELF has got the NODE: it is held there, though it goes from the page. */
    private static void heldNode() {
        Run r = run();
        r.does("2: 42", f -> f.leaf(1, 42), 0);
        r.does("31: keep", f -> f.keep(0, 1, 0), 0);
        r.does("4: undo", f -> f.undo(), 0);
        r.asks("35: it weighs as before", f -> f.weight(0), 53);
        r.asks("36: and has its failure", f -> f.toss(0), 42);
        r.asks("31: but can't come again", f -> f.keep(1, 1, 0), -1);
        r.does("2: another one in its place", f -> f.leaf(0, 3), 0);
        r.asks("35: is not the one on the shelf", f -> f.weight(0), 53);
    }
}
