/** Promises 14 to 22, edge by edge: the last that is taken, the first that is refused, and nothing changed by it. */
public final class HearingEdgesTest {
    private static final int MIN = Integer.MIN_VALUE;
    private static final int MAX = Integer.MAX_VALUE;
    private static final Check check = new Check("hearing, edges");

    public static void main(String[] args) {
        hearRanges();
        hearWords();
        hearRoom();
        hearRoomByOnes();
        listenRanges();
        listenRoom();
        listenTooLong();
        hush();
        ear();
        readingsRanges();
        readingsOfOneWord();
        readingsOfNumbers();
        readingsOfBrackets();
        readingsAndMeanings();
        readingsAndStyles();
        readingsOfTwenty();
        mostReadings();
        writeRanges();
        writeNew();
        writeRoom();
        writeTwenty();
        placeRanges();
        placeOfNone();
        placeOfAll();
        placeOfNumbers();
        placeOfNumbersAhead();
        placeOfCalls();
        doubtRanges();
        doubtPaths();
        doubtDeep();
        fewestRanges();
        fewestNotRight();
        fewestNodes();
        fewestWords();
        fewestLeavesNoDoubt();
        check.end();
    }

    private static Run run() {
        return new Run(check);
    }

    private static int base32(int... words) {
        int told = 0;
        for (int w : words) {
            told = told * 32 + w;
        }
        return told;
    }

    private static void dueEar(String told, Run r, int... want) {
        r.asks(told + ", so many", f -> f.count(1), want.length);
        for (int i = 0; i < want.length; i++) {
            int at = i;
            r.asks(told + ", word " + i, f -> f.ear(at), want[i]);
        }
        r.asks(told + ", no more", f -> f.ear(want.length), -1);
    }

    // ---- promises 14 to 17

    private static void hearRanges() {
        Run r = run();
        for (int n : new int[] {-1, 0, 6, 7, MIN, MAX}) {
            r.asks("14: hear(" + n + ", 0)", f -> f.hear(n, 0), -1);
        }
        r.does("14: one digit", f -> f.hear(1, 7), 1);
        for (int n : new int[] {0, 6}) {
            r.asks("14: hear(" + n + ", 0), with a word there", f -> f.hear(n, 0), -1);
        }
        r.does("14: five digits", f -> f.hear(5, base32(1, 2, 3, 4, 5)), 6);
        dueEar("14: the highest first", r, 7, 1, 2, 3, 4, 5);
    }

    private static void hearWords() {
        Run r = run();
        r.does("14: the least word", f -> f.hear(1, 0), 1);
        r.does("14: the greatest word", f -> f.hear(1, 30), 2);
        r.asks("14: no such word", f -> f.hear(1, 31), -1);
        for (int n = 1; n <= 5; n++) {
            for (int at = 0; at < n; at++) {
                int many = n;
                int told = base32(30, 30, 30, 30, 30) + (1 << 5 * at);
                r.asks("14: 31 as digit " + at + " of " + n, f -> f.hear(many, told), -1);
            }
        }
        for (int n = 1; n <= 4; n++) {
            int many = n;
            int told = 31 << 5 * n | 20;
            r.does("14: 31 above the lowest " + n, f -> f.hear(many, told), 2 + many * (many + 1) / 2);
        }
        dueEar("14: only the lowest came", r, 0, 30, 20, 0, 20, 0, 0, 20, 0, 0, 0, 20);
        r.asks("14: all ones", f -> f.hear(5, -1), -1);
        r.asks("14: the greatest number", f -> f.hear(5, MAX), -1);
        r.does("14: what is above five digits", f -> f.hear(5, 0x7E000000 | base32(9, 8, 7, 6, 5)), 17);
        r.asks("14: is left aside", f -> f.ear(12), 9);
        r.asks("14: the lowest one", f -> f.ear(16), 5);
    }

    private static void hearRoom() {
        Run r = run();
        for (int i = 1; i <= 3; i++) {
            int many = 5 * i;
            r.does("14: five more", f -> f.hear(5, 0), many);
        }
        r.does("14: one more", f -> f.hear(1, 1), 16);
        r.asks("14: 16 and 5", f -> f.hear(5, 0), -2);
        r.asks("14: 16 and 5, no such word is ahead", f -> f.hear(5, 31), -1);
        r.asks("14: 16 and 6, no such many is ahead", f -> f.hear(6, 0), -1);
        r.does("14: 16 and 4", f -> f.hear(4, base32(2, 3, 4, 5)), 20);
        for (int n = 1; n <= 5; n++) {
            int many = n;
            r.asks("14: 20 and " + n, f -> f.hear(many, 0), -2);
            r.asks("14: 20 and " + n + ", no such word", f -> f.hear(many, 31), -1);
        }
        r.asks("14: 20 and 0", f -> f.hear(0, 0), -1);
        r.asks("17: the 20th", f -> f.ear(19), 5);
        r.asks("17: no 21st", f -> f.ear(20), -1);
        r.does("16: all go", f -> f.hush(), 20);
        r.does("14: room again", f -> f.hear(5, 0), 5);
    }

    private static void hearRoomByOnes() {
        Run r = run();
        for (int i = 0; i < 20; i++) {
            int word = i;
            r.does("14: word " + i, f -> f.hear(1, word), i + 1);
        }
        r.asks("14: the 21st", f -> f.hear(1, 0), -2);
        for (int i = 0; i < 20; i++) {
            int at = i;
            r.asks("17: ear(" + i + ")", f -> f.ear(at), i);
        }
        Run five = run();
        for (int i = 1; i <= 4; i++) {
            int many = 5 * i;
            five.does("14: five more", f -> f.hear(5, 0), many);
        }
        five.asks("14: 20 are there", f -> f.hear(1, 0), -2);
    }

    private static void listenRanges() {
        Run r = run();
        r.asks("15: no nodes", f -> f.listen(0, 0), -1);
        r.letters(0, 2);
        r.words(5, 6, 7);
        for (int style : new int[] {-1, 8, 9, MIN, MAX}) {
            r.asks("15: listen(" + style + ", 0)", f -> f.listen(style, 0), -1);
        }
        for (int node : new int[] {-1, 2, 120, MIN, MAX}) {
            r.asks("15: listen(7, " + node + ")", f -> f.listen(7, node), -1);
        }
        r.does("15: the first style", f -> f.listen(0, 1), 1);
        dueEar("15: what was there is gone", r, 0);
        r.does("15: a plus a", f -> f.node(2, 0, 1), 2);
        r.does("15: the last style", f -> f.listen(7, 2), 3);
        dueEar("15: a plus a", r, 0, 20, 0);
        r.does("15: a of a, not right", f -> f.node(9, 0, 0), 3);
        r.does("15: is said, so it is heard", f -> f.listen(0, 3), 5);
        dueEar("15: a of a", r, 29, 0, 28, 0, 30);
    }

    private static void listenRoom() {
        Run r = run().letters(0, 1).chain(7, 0, 1, 19);
        r.does("15: 20 words", f -> f.listen(1, 19), 20);
        r.does("15: one root more", f -> f.node(7, 19, 0), 20);
        r.asks("15: 21 words", f -> f.listen(1, 20), -2);
        r.asks("15: many more, kept", f -> f.listen(0, 20), -2);
        r.asks("15: the ear has still 20", f -> f.count(1), 20);
        r.does("15: 19 words", f -> f.listen(1, 18), 19);
    }

    private static void listenTooLong() {
        Run r = run();
        r.does("15: 10", f -> f.leaf(1, 10), 0);
        r.chain(7, 0, 1, 26);
        r.does("15: 100", f -> f.leaf(1, 100), 27);
        r.chain(7, 27, 28, 26);
        r.words(3, 20, 4);
        r.asks("15: 80 words", f -> f.listen(0, 26), -2);
        r.asks("15: 81 words", f -> f.listen(0, 53), -5);
        r.asks("15: 29 words in another style", f -> f.listen(1, 53), -2);
        dueEar("15: refused", r, 3, 20, 4);
    }

    private static void hush() {
        Run r = run();
        r.asks("16: nothing there", f -> f.hush(), 0);
        r.words(9);
        r.does("16: one word", f -> f.hush(), 1);
        r.asks("16: none", f -> f.count(1), 0);
        r.asks("16: again", f -> f.hush(), 0);
        r.words(0, 1, 2, 3, 4, 5, 6, 7, 8, 9, 10, 11, 12, 13, 14, 15, 16, 17, 18, 19);
        r.does("16: twenty", f -> f.hush(), 20);
        r.asks("16: none of them is left", f -> f.ear(0), -1);
    }

    private static void ear() {
        Run r = run();
        r.asks("17: an empty ear", f -> f.ear(0), -1);
        r.words(30, 0);
        r.asks("17: the first", f -> f.ear(0), 30);
        r.asks("17: the last", f -> f.ear(1), 0);
        for (int i : new int[] {-1, 2, 19, 20, MIN, MAX}) {
            r.asks("17: ear(" + i + ")", f -> f.ear(i), -1);
        }
    }

    // ---- promise 18

    private static void readingsRanges() {
        Run r = run().words(0);
        for (int style : new int[] {-1, 9, 10, MIN, MAX}) {
            r.asks("18: readings(" + style + ")", f -> Check.readings(f, style), Check.ILLEGAL_ARGUMENT);
        }
        for (int style = 0; style <= 8; style++) {
            int s = style;
            r.asks("18: readings(" + style + ")", f -> Check.readings(f, s), 1);
        }
        r.does("16: hush", f -> f.hush(), 1);
        r.asks("18: no words", f -> Check.readings(f, 8), 0);
        r.asks("18: no words, no such style", f -> Check.readings(f, 9), Check.ILLEGAL_ARGUMENT);
    }

    private static void dueReadings(String told, int style, long want, int... words) {
        Run r = run();
        r.does("5: j is a function", f -> f.means(9, true), 1);
        r.words(words);
        r.asks("18: " + told + ", style " + style, f -> Check.readings(f, style), want);
        r.asks("19: " + told + ", no more in style " + style, f -> f.write(style, want), -4);
    }

    private static void readingsOfOneWord() {
        for (int word = 0; word <= 30; word++) {
            int want = word < 9 || word >= 10 && word <= 19 ? 1 : 0;
            dueReadings("the word " + word, 0, want, word);
            dueReadings("the word " + word, 1, want, word);
            dueReadings("the word " + word, 8, want, word);
        }
    }

    private static void readingsOfNumbers() {
        dueReadings("0", 8, 1, 10);
        dueReadings("0 0", 8, 0, 10, 10);
        dueReadings("0 7", 8, 0, 10, 17);
        dueReadings("7 0", 8, 1, 17, 10);
        dueReadings("1 0 0 0", 8, 1, 11, 10, 10, 10);
        dueReadings("9 9 9 9", 8, 1, 19, 19, 19, 19);
        dueReadings("0 9 9 9", 8, 0, 10, 19, 19, 19);
        dueReadings("1 0 0 0 0", 8, 0, 11, 10, 10, 10, 10);
        dueReadings("0 9 9 9 9", 8, 0, 10, 19, 19, 19, 19);
        dueReadings("1 a", 8, 0, 11, 0);
        dueReadings("a 1", 8, 0, 0, 11);
        dueReadings("0 plus 0", 8, 1, 10, 20, 10);
        dueReadings("0 0 plus 0", 8, 0, 10, 10, 20, 10);
        dueReadings("a index 0 0", 8, 0, 0, 24, 10, 10);
        dueReadings("root 0 1", 8, 0, 25, 10, 11);
        dueReadings("9 9 9 9 over 1 0 0 0 0", 8, 0, 19, 19, 19, 19, 22, 11, 10, 10, 10, 10);
    }

    /** Begin and end stand round a whole one of KINDS 2 .. 7, 9, once; open and close round any. */
    private static void readingsOfBrackets() {
        dueReadings("begin end", 8, 0, 29, 30);
        dueReadings("begin a end", 8, 0, 29, 0, 30);
        dueReadings("begin 1 end", 8, 0, 29, 11, 30);
        dueReadings("open close", 8, 0, 26, 27);
        dueReadings("open a close", 8, 1, 26, 0, 27);
        dueReadings("open a close", 0, 1, 26, 0, 27);
        dueReadings("begin open a close end", 8, 0, 29, 26, 0, 27, 30);
        dueReadings("begin open a close end", 0, 0, 29, 26, 0, 27, 30);
        dueReadings("open open a close close", 8, 1, 26, 26, 0, 27, 27);
        dueReadings("open a end", 8, 0, 26, 0, 30);
        dueReadings("begin root a close", 8, 0, 29, 25, 0, 27);
        for (int pair = 20; pair <= 24; pair++) {
            dueReadings("begin a pair a end", 8, 1, 29, 0, pair, 0, 30);
            dueReadings("begin a pair a end", 0, 1, 29, 0, pair, 0, 30);
            dueReadings("begin a pair a end", 1, 0, 29, 0, pair, 0, 30);
            dueReadings("a pair a", 8, 1, 0, pair, 0);
            dueReadings("a pair a", 0, 0, 0, pair, 0);
            dueReadings("pair a", 8, 0, pair, 0);
            dueReadings("a pair", 8, 0, 0, pair);
        }
        dueReadings("begin root a end", 8, 1, 29, 25, 0, 30);
        dueReadings("begin root a end", 1, 0, 29, 25, 0, 30);
        dueReadings("begin j of a end", 8, 1, 29, 9, 28, 0, 30);
        dueReadings("begin j of a end", 1, 0, 29, 9, 28, 0, 30);
        dueReadings("begin begin root a end end", 8, 0, 29, 29, 25, 0, 30, 30);
        dueReadings("begin root a", 8, 0, 29, 25, 0);
        dueReadings("root a end", 8, 0, 25, 0, 30);
        dueReadings("root begin end", 8, 0, 25, 29, 30);
        dueReadings("root open a close plus a", 8, 2, 25, 26, 0, 27, 20, 0);
    }

    private static void readingsAndMeanings() {
        dueReadings("j of a", 1, 1, 9, 28, 0);
        dueReadings("j of j", 1, 0, 9, 28, 9);
        dueReadings("j of j of a", 1, 1, 9, 28, 9, 28, 0);
        dueReadings("a of a", 1, 0, 0, 28, 0);
        dueReadings("j of", 1, 0, 9, 28);
        dueReadings("of a", 1, 0, 28, 0);
        dueReadings("j a", 1, 0, 9, 0);
        dueReadings("1 of a", 1, 0, 11, 28, 0);
        dueReadings("a plus j", 1, 0, 0, 20, 9);
        dueReadings("j of a plus a", 1, 2, 9, 28, 0, 20, 0);
        Run r = run().words(0, 28, 1, 20, 1);
        r.asks("18: a is no function", f -> Check.readings(f, 1), 0);
        r.does("5: it becomes one", f -> f.means(0, true), 1);
        r.asks("18: a is one", f -> Check.readings(f, 1), 2);
        r.does("5: b becomes one, too", f -> f.means(1, true), 1);
        r.asks("18: no letter is left", f -> Check.readings(f, 1), 0);
    }

    private static void readingsAndStyles() {
        Run r = run().words(25, 29, 0, 20, 1, 30, 21, 2);
        r.asks("18: plus is not kept", f -> Check.readings(f, 3), 0);
        r.does("9: plus is kept", f -> f.keeps(3, 2, true), 1);
        r.asks("18: plus is kept", f -> Check.readings(f, 3), 2);
        r.asks("18: free", f -> Check.readings(f, 8), 2);
        r.does("9: times is kept, too", f -> f.keeps(3, 3, true), 1);
        r.asks("18: but is not heard so", f -> Check.readings(f, 3), 0);
        r.asks("18: free, whatever a style keeps", f -> Check.readings(f, 8), 2);
    }

    private static int[] rootsAnd(int roots, int... words) {
        int[] all = new int[roots + words.length];
        for (int i = 0; i < all.length; i++) {
            all[i] = i < roots ? 25 : words[i - roots];
        }
        return all;
    }

    private static void readingsOfTwenty() {
        dueReadings("19 roots and a letter", 8, 1, rootsAnd(19, 3));
        dueReadings("20 roots", 8, 0, rootsAnd(20));
        dueReadings("17 roots, a plus a", 8, 18, rootsAnd(17, 0, 20, 0));
        dueReadings("16 roots and a number", 8, 1, rootsAnd(16, 19, 19, 19, 19));
        dueReadings("15 roots and no number", 8, 0, rootsAnd(15, 19, 19, 19, 19, 19));
    }

    /**
     * At most 10^15 are counted: twenty words never have so many. Most ways have roots and
     * pairs alone (begin and end bar some, of and digits take room), so all such rows are tried.
     */
    private static void mostReadings() {
        long most = 0;
        for (int pairs = 0; pairs <= 9; pairs++) {
            most = Math.max(most, mostOf(pairs, 19 - 2 * pairs, new int[pairs + 1], 0));
        }
        check.due("18: the most that twenty words have", most, 25194);
        check.due("18: is not above 10^15", most <= 1000000000000000L ? 1 : 0, 1);
    }

    /** Shares the roots that are left out among the operands from one on. */
    private static long mostOf(int pairs, int left, int[] roots, int from) {
        if (from == pairs) {
            roots[from] = left;
            FormulaVoice f = new FormulaVoice();
            for (int operand = 0; operand <= pairs; operand++) {
                for (int i = 0; i < roots[operand]; i++) {
                    f.hear(1, 25);
                }
                f.hear(operand < pairs ? 2 : 1, operand < pairs ? base32(0, 20) : 0);
            }
            check.due("18: twenty words", f.count(1), 20);
            return Check.readings(f, 8);
        }
        long most = 0;
        for (int own = 0; own <= left; own++) {
            roots[from] = own;
            most = Math.max(most, mostOf(pairs, left - own, roots, from + 1));
        }
        return most;
    }

    // ---- promise 19

    private static void writeRanges() {
        Run r = run();
        for (int style = 0; style <= 8; style++) {
            int s = style;
            r.asks("19: no words, style " + s, f -> f.write(s, 0), -4);
        }
        r.words(25, 0, 20, 1);
        for (int style : new int[] {-1, 9, 10, MIN, MAX}) {
            r.asks("19: write(" + style + ", 0)", f -> f.write(style, 0), -1);
            r.asks("19: write(" + style + ", 2), ahead of -4", f -> f.write(style, 2), -1);
        }
        for (long k : new long[] {-1, Long.MIN_VALUE, MIN}) {
            r.asks("19: write(1, " + k + ")", f -> f.write(1, k), -1);
            r.asks("19: write(0, " + k + "), ahead of -4", f -> f.write(0, k), -1);
        }
        for (long k : new long[] {2, 3, MAX, 1L << 32, Long.MAX_VALUE}) {
            r.asks("19: write(1, " + k + ")", f -> f.write(1, k), -4);
            r.asks("19: write(8, " + k + ")", f -> f.write(8, k), -4);
        }
        r.asks("19: none in style 0", f -> f.write(0, 0), -4);
        r.does("19: the first", f -> f.write(1, 0), 3);
        r.does("19: the last", f -> f.write(1, 1), 7);
        r.does("19: the last, free", f -> f.write(8, 1), 11);
        r.asks("19: its kind", f -> f.look(11, 0), 7);
    }

    /** PARTS ahead, x ahead of y, all new. */
    private static void writeNew() {
        Run r = run().words(0, 20, 0, 21, 12);
        r.does("19: a letter that is there", f -> f.leaf(0, 0), 0);
        r.does("19: a plus (a times 2)", f -> f.write(1, 0), 5);
        int[][] want = {{0, 0, -2, -2}, {0, 0, -2, -2}, {0, 0, -2, -2}, {1, 2, -2, -2}, {3, -2, 2, 3}, {2, -2, 1, 4}};
        for (int n = 0; n < want.length; n++) {
            for (int what = 0; what <= 3; what++) {
                int node = n;
                int w = what;
                r.asks("19: look(" + n + ", " + what + ")", f -> f.look(node, w), want[n][what]);
            }
        }
        r.asks("19: the ear stays", f -> f.count(1), 5);
        r.does("19: (a plus a) times 2", f -> f.write(1, 1), 10);
        r.asks("19: its x", f -> f.look(10, 2), 8);
        r.asks("19: its y", f -> f.look(10, 3), 9);
        r.does("19: the same again, all new", f -> f.write(1, 1), 15);
        r.asks("19: is alike", f -> f.alike(10, 15), 1);
    }

    private static void writeRoom() {
        Run r = run().words(0, 20, 1, 20, 2).letters(0, 116);
        r.asks("19: four are free, five would come", f -> f.write(1, 0), -2);
        r.asks("19: the last one, too", f -> f.write(1, 1), -2);
        r.asks("19: one that isn't there", f -> f.write(1, 2), -4);
        r.asks("19: no such style", f -> f.write(9, 0), -1);
        r.asks("19: below 0", f -> f.write(1, -1), -1);
        r.does("4: one goes", f -> f.undo(), 115);
        r.does("19: five are free", f -> f.write(1, 1), 119);
        r.asks("19: 120 are there", f -> f.count(0), 120);
        r.asks("19: none is free", f -> f.write(1, 0), -2);
        r.asks("19: none is free, and it isn't there", f -> f.write(1, 2), -4);
        r.does("16: hush", f -> f.hush(), 5);
        r.words(0);
        r.asks("19: none is free for one", f -> f.write(1, 0), -2);
        r.does("4: one goes", f -> f.undo(), 119);
        r.does("19: one is free for one", f -> f.write(1, 0), 119);
    }

    private static void writeTwenty() {
        Run r = run().words(rootsAnd(19, 3));
        r.does("19: twenty nodes", f -> f.write(8, 0), 19);
        r.asks("19: their SIZE", f -> f.look(19, 4), 20);
        for (int i = 2; i <= 6; i++) {
            int last = 20 * i - 1;
            r.does("19: twenty more", f -> f.write(8, 0), last);
        }
        r.asks("19: no room for more", f -> f.write(8, 0), -2);
    }

    // ---- promise 20

    private static void placeRanges() {
        Run r = run();
        r.asks("20: no nodes", f -> f.place(8, 0), -1);
        r.letters(0, 2).words(0);
        for (int style : new int[] {-1, 9, 10, MIN, MAX}) {
            r.asks("20: place(" + style + ", 0)", f -> f.place(style, 0), -1);
        }
        for (int node : new int[] {-1, 2, 120, MIN, MAX}) {
            r.asks("20: place(8, " + node + ")", f -> f.place(8, node), -1);
        }
        for (int style = 0; style <= 8; style++) {
            int s = style;
            r.asks("20: place(" + s + ", 0)", f -> f.place(s, 0), 0);
            r.asks("20: place(" + s + ", 1), one that is alike", f -> f.place(s, 1), 0);
        }
    }

    private static void placeOfNone() {
        Run r = run().letters(0, 1);
        for (int style = 0; style <= 8; style++) {
            int s = style;
            r.asks("20: no words, style " + s, f -> f.place(s, 0), -2);
        }
        r.does("20: root a", f -> f.node(7, 0, 0), 1);
        r.does("20: root a plus a", f -> f.node(2, 1, 0), 2);
        r.does("20: a of root a", f -> f.node(9, 1, 0), 3);
        r.does("15: listen", f -> f.listen(1, 1), 2);
        r.asks("20: what is said so", f -> f.place(1, 1), 0);
        r.asks("20: a part of it", f -> f.place(1, 0), -2);
        r.asks("20: what has it as a part", f -> f.place(1, 2), -2);
        r.asks("20: kept it is said in another way", f -> f.place(0, 1), -2);
        r.does("15: listen, kept", f -> f.listen(0, 1), 4);
        r.asks("20: kept", f -> f.place(0, 1), 0);
        r.asks("20: not kept", f -> f.place(1, 1), -2);
        r.asks("20: free", f -> f.place(8, 1), 0);
        r.does("15: what isn't right", f -> f.listen(1, 3), 4);
        r.asks("20: is none of them", f -> f.place(1, 3), -2);
        r.asks("20: nor in free", f -> f.place(8, 3), -2);
        r.does("5: a is a function", f -> f.means(0, true), 1);
        r.asks("20: its letter isn't right now", f -> f.place(1, 3), -2);
    }

    /** Each READING that is written has the place that it was written by. */
    private static void placeOfAll() {
        int[][] rows = {
            {25, 0, 20, 1, 21, 2}, {0, 20, 1, 20, 2, 20, 3}, {25, 25, 0, 22, 1}, {29, 0, 23, 1, 30, 24, 2, 20, 3},
            {26, 25, 0, 20, 1, 27, 20, 25, 2, 20, 3}, {25, 29, 0, 20, 1, 20, 2, 30}, {29, 25, 0, 20, 1, 30},
            {29, 25, 0, 23, 1, 24, 2, 30, 21, 3}};
        for (int[] words : rows) {
            Run r = run().words(words);
            long many = Check.readings(heard(words), 8);
            check.due("18: there are some", many > 1 ? 1 : 0, 1);
            int top = -1;
            for (long k = 0; k < Math.min(many, 12); k++) {
                long place = k;
                int next = top + sizeOf(words);
                r.does("19: reading " + k, f -> f.write(8, place), next);
                r.asks("20: its place", f -> f.place(8, next), place);
                top = next;
            }
        }
    }

    private static FormulaVoice heard(int... words) {
        FormulaVoice f = new FormulaVoice();
        Check.tell(f, words);
        return f;
    }

    /** All READINGS of words without digits and calls are of the same SIZE. */
    private static int sizeOf(int... words) {
        int size = 0;
        for (int w : words) {
            size += w == 27 || w == 29 || w == 30 ? 0 : 1;
        }
        return size;
    }

    private static void placeOfNumbers() {
        int[] numbers = {0, 9, 10, 99, 100, 999, 1000, 9999};
        for (int number : numbers) {
            Run r = run();
            r.does("2: a number", f -> f.leaf(1, number), 0);
            r.does("2: another one", f -> f.leaf(1, number == 9999 ? 9998 : number + 1), 1);
            r.does("15: listen", f -> f.listen(1, 0), Integer.toString(number).length());
            r.asks("20: the number " + number, f -> f.place(1, 0), 0);
            r.asks("20: the one beside it", f -> f.place(1, 1), -2);
        }
    }

    /** How many words x has depends on its digits. */
    private static void placeOfNumbersAhead() {
        int[] numbers = {0, 9, 10, 99, 100, 999, 1000, 9999};
        for (int number : numbers) {
            Run r = run();
            int digits = Integer.toString(number).length();
            r.does("2: a number", f -> f.leaf(1, number), 0);
            r.does("2: another one", f -> f.leaf(1, number == 9999 ? 9998 : number + 1), 1);
            r.does("3: plus itself", f -> f.node(2, 0, 0), 2);
            r.does("3: plus the other one", f -> f.node(2, 0, 1), 3);
            r.does("3: the other one ahead", f -> f.node(2, 1, 0), 4);
            r.does("15: listen", f -> f.listen(1, 2), 2 * digits + 1);
            r.asks("20: " + number + " ahead", f -> f.place(8, 2), 0);
            r.asks("20: another one behind", f -> f.place(8, 3), -2);
            r.asks("20: another one ahead", f -> f.place(8, 4), -2);
            r.does("15: listen, kept", f -> f.listen(0, 2), 2 * digits + 3);
            r.asks("20: " + number + " ahead, kept", f -> f.place(0, 2), 0);
        }
    }

    private static void placeOfCalls() {
        Run r = run().letters(0, 1);
        r.does("5: i is a function", f -> f.means(8, true), 1);
        r.does("5: j is one", f -> f.means(9, true), 1);
        r.words(9, 28, 0, 20, 0);
        r.does("19: j of a, plus a", f -> f.write(1, 0), 4);
        r.does("19: j of (a plus a)", f -> f.write(1, 1), 8);
        r.asks("19: a call", f -> f.look(8, 0), 9);
        r.asks("19: of j", f -> f.look(8, 1), 9);
        r.asks("19: of a plus a", f -> f.look(8, 2), 7);
        r.asks("20: the first", f -> f.place(1, 4), 0);
        r.asks("20: the second", f -> f.place(1, 8), 1);
        r.does("3: i of (a plus a)", f -> f.node(9, 7, 8), 9);
        r.asks("20: another letter", f -> f.place(1, 9), -2);
        r.does("3: j of a", f -> f.node(9, 0, 9), 10);
        r.asks("20: fewer words", f -> f.place(1, 10), -2);
    }

    // ---- promise 21

    private static void doubtRanges() {
        Run r = run();
        for (int style = 0; style <= 8; style++) {
            int s = style;
            r.asks("21: no words, style " + s, f -> f.doubt(s, 0, 0), -4);
        }
        r.words(25, 0, 20, 1);
        for (int style : new int[] {-1, 9, 10, MIN, MAX}) {
            r.asks("21: doubt(" + style + ", 0, 1)", f -> f.doubt(style, 0, 1), -1);
            r.asks("21: doubt(" + style + ", 0, 0), ahead of -2", f -> f.doubt(style, 0, 0), -1);
            r.asks("21: doubt(" + style + ", 0, 2), ahead of -4", f -> f.doubt(style, 0, 2), -1);
        }
        for (long k : new long[] {-1, MIN, Long.MIN_VALUE}) {
            r.asks("21: doubt(1, " + k + ", 0)", f -> f.doubt(1, k, 0), -1);
            r.asks("21: doubt(1, 0, " + k + ")", f -> f.doubt(1, 0, k), -1);
            r.asks("21: doubt(1, " + k + ", the same)", f -> f.doubt(1, k, k), -1);
            r.asks("21: doubt(1, " + k + ", 2)", f -> f.doubt(1, k, 2), -1);
        }
        for (long k : new long[] {2, MAX, 1L << 32, Long.MAX_VALUE}) {
            r.asks("21: doubt(1, " + k + ", 0)", f -> f.doubt(1, k, 0), -4);
            r.asks("21: doubt(1, 0, " + k + ")", f -> f.doubt(1, 0, k), -4);
            r.asks("21: not so many, ahead of the same", f -> f.doubt(1, k, k), -4);
        }
        r.asks("21: the first and itself", f -> f.doubt(1, 0, 0), -2);
        r.asks("21: the last and itself", f -> f.doubt(8, 1, 1), -2);
        r.asks("21: the first and the last", f -> f.doubt(1, 0, 1), 0);
        r.asks("21: the last and the first", f -> f.doubt(8, 1, 0), 0);
        r.asks("21: none in style 0", f -> f.doubt(0, 0, 1), -4);
    }

    private static void doubtPaths() {
        Run r = run().words(0, 20, 26, 25, 1, 21, 2, 27);
        r.asks("18: two readings", f -> Check.readings(f, 1), 2);
        r.asks("21: y, x", f -> f.doubt(1, 0, 1), 2 + 3);
        Run both = run().words(26, 25, 0, 20, 1, 27, 21, 26, 25, 0, 20, 1, 27);
        both.asks("18: two times two readings", f -> Check.readings(f, 1), 4);
        both.asks("21: x is the same, y, x", f -> f.doubt(1, 0, 1), 2 + 3);
        both.asks("21: y is the same, x, x", f -> f.doubt(1, 0, 2), 1 + 3);
        both.asks("21: both are unlike, x first", f -> f.doubt(1, 0, 3), 1 + 3);
        both.asks("21: both are unlike, x first", f -> f.doubt(1, 1, 2), 1 + 3);
        both.asks("21: x is the last, y, x", f -> f.doubt(1, 3, 2), 2 + 3);
    }

    /** 17 roots, a plus b: a READING for each number of roots on top. */
    private static void doubtDeep() {
        Run r = run().words(rootsAnd(17, 0, 20, 1));
        int told = 0;
        int worth = 1;
        for (int k = 0; k < 17; k++) {
            int first = k;
            int path = told;
            r.asks("21: " + k + " steps down", f -> f.doubt(1, first, first + 1), path);
            r.asks("21: the last one and " + k, f -> f.doubt(1, 17, first), path);
            told += worth;
            worth *= 3;
        }
        r.asks("21: no 19th", f -> f.doubt(1, 17, 18), -4);
    }

    // ---- promise 22

    private static void fewestRanges() {
        Run r = run();
        r.asks("22: no nodes", f -> f.fewest(0), -1);
        r.letters(0, 2).words(5, 20, 6);
        for (int node : new int[] {-1, 2, 120, MIN, MAX}) {
            r.asks("22: fewest(" + node + ")", f -> f.fewest(node), -1);
        }
        r.does("22: a letter", f -> f.fewest(1), 1);
        dueEar("22: a letter", r, 0);
        r.does("22: the greatest number", f -> f.leaf(1, 9999), 2);
        r.does("22: has four", f -> f.fewest(2), 4);
        dueEar("22: a number", r, 19, 19, 19, 19);
    }

    private static void fewestNotRight() {
        Run r = run().letters(0, 1);
        r.does("22: j of a", f -> f.node(9, 0, 9), 1);
        r.words(7);
        r.asks("22: j is no function", f -> f.fewest(1), -3);
        r.does("22: root of it", f -> f.node(7, 1, 0), 2);
        r.asks("22: a part isn't right", f -> f.fewest(2), -3);
        r.does("5: j is one", f -> f.means(9, true), 1);
        r.does("22: now it is right", f -> f.fewest(2), 4);
        dueEar("22: root j of a", r, 25, 9, 28, 0);
        r.does("5: a is one, too", f -> f.means(0, true), 1);
        r.asks("22: a letter isn't right", f -> f.fewest(0), -3);
        r.asks("22: nor what has it", f -> f.fewest(2), -3);
        r.chain(7, 2, 3, 7);
        r.asks("22: not right, ahead of too many nodes", f -> f.fewest(9), -3);
        r.chain(8, 9, 10, 12);
        r.asks("22: not right, ahead of too many words", f -> f.fewest(21), -3);
    }

    private static void fewestNodes() {
        for (int kind : new int[] {7, 9}) {
            Run r = run();
            r.does("5: a is a function", f -> f.means(0, true), 1);
            r.does("22: 1", f -> f.leaf(1, 1), 0);
            r.chain(kind, 0, 1, 8);
            r.does("22: eight of kind " + kind, f -> f.fewest(8), kind == 7 ? 9 : 17);
            r.does("22: a ninth", f -> f.node(kind, 8, 0), 9);
            r.asks("22: nine of kind " + kind, f -> f.fewest(9), -5);
            r.does("22: a fence is none of them", f -> f.node(8, 8, 0), 10);
            r.does("22: eight, and a fence", f -> f.fewest(10), kind == 7 ? 11 : 19);
        }
        Run pairs = run().letters(0, 1).words(4);
        for (int i = 1; i <= 9; i++) {
            int x = i - 1;
            pairs.does("22: a pair", f -> f.node(3, x, 0), i);
        }
        pairs.asks("22: eight pairs, too many words", f -> f.fewest(8), -2);
        pairs.asks("22: nine pairs, too many nodes is ahead", f -> f.fewest(9), -5);
        pairs.does("22: one part twice, four pairs", f -> f.node(3, 3, 3), 10);
        pairs.does("22: nine by a part that is there twice", f -> f.node(3, 4, 4), 11);
        pairs.asks("22: counts twice", f -> f.fewest(11), -5);
    }

    /** A row of n pairs, all but the topmost one KEPT, has 4 n - 1 words with its letters. */
    private static void fewestWords() {
        for (int number : new int[] {9, 10, 99, 100, 9999}) {
            Run r = run();
            r.does("22: a number", f -> f.leaf(1, number), 0);
            r.letters(1, 1).words(8, 8);
            for (int i = 2; i <= 6; i++) {
                int x = i == 2 ? 0 : i - 1;
                int node = i;
                r.does("22: a pair", f -> f.node(4, x, 1), node);
            }
            int want = 18 + Integer.toString(number).length();
            if (want <= 20) {
                r.does("22: " + want + " words", f -> f.fewest(6), want);
                r.asks("22: so many in the ear", f -> f.count(1), want);
                r.asks("22: no doubt is left", f -> Check.readings(f, 8), 1);
            } else {
                r.asks("22: " + want + " words", f -> f.fewest(6), -2);
                dueEar("22: refused", r, 8, 8);
            }
        }
        Run fences = run().letters(0, 1).chain(8, 0, 1, 9);
        fences.does("22: 19 words of fences", f -> f.fewest(9), 19);
        fences.does("22: one more", f -> f.node(8, 9, 0), 10);
        fences.asks("22: 21 words of fences", f -> f.fewest(10), -2);
        fences.does("22: a root", f -> f.node(7, 9, 0), 11);
        fences.does("22: 20 words of fences and a root", f -> f.fewest(11), 20);
    }

    /** What is KEPT leaves the FORMULA alone, and taking any begin and end away would not. */
    private static void fewestLeavesNoDoubt() {
        Run r = run().letters(0, 1);
        r.does("22: a plus a", f -> f.node(2, 0, 0), 1);
        r.does("22: root a", f -> f.node(7, 0, 0), 2);
        r.does("22: x is a pair", f -> f.node(3, 1, 0), 3);
        r.does("22: y is a pair", f -> f.node(3, 0, 1), 4);
        r.does("22: x is a root", f -> f.node(3, 2, 0), 5);
        r.does("22: y is a root", f -> f.node(3, 0, 2), 6);
        r.does("22: a root of a pair", f -> f.node(7, 1, 0), 7);
        r.does("22: a root of a root", f -> f.node(7, 2, 0), 8);
        r.does("22: a fenced pair", f -> f.node(8, 1, 0), 9);
        int[] want = {1, 3, 2, 7, 7, 6, 4, 6, 3, 5};
        for (int n = 0; n < want.length; n++) {
            int node = n;
            r.does("22: fewest(" + n + ")", f -> f.fewest(node), want[n]);
            r.asks("22: one reading", f -> Check.readings(f, 8), 1);
            r.asks("22: this one", f -> f.place(8, node), 0);
        }
        r.asks("10: a style is as it was", f -> f.words(1, 3), 5);
        r.asks("10: and another one", f -> f.words(0, 3), 9);
    }
}
