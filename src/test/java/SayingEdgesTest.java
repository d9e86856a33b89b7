/** Promises 10 to 13, edge by edge: the last that is taken, the first that is refused, and nothing changed by it. */
public final class SayingEdgesTest {
    private static final int MIN = Integer.MIN_VALUE;
    private static final int MAX = Integer.MAX_VALUE;
    private static final Check check = new Check("saying, edges");

    public static void main(String[] args) {
        wordsRanges();
        wordRanges();
        digits();
        neverKept();
        eightyWords();
        eightyWordsOfPairs();
        saidThoughNotRight();
        soundRanges();
        soundOfEighty();
        clearRanges();
        clearKinds();
        clearWhateverElse();
        check.end();
    }

    private static Run run() {
        return new Run(check);
    }

    private static void wordsRanges() {
        Run r = run();
        r.asks("10: no nodes", f -> f.words(0, 0), -1);
        r.letters(0, 2);
        for (int style : new int[] {-1, 8, 9, MIN, MAX}) {
            r.asks("10: words(" + style + ", 1)", f -> f.words(style, 1), -1);
        }
        for (int node : new int[] {-1, 2, 120, MIN, MAX}) {
            r.asks("10: words(7, " + node + ")", f -> f.words(7, node), -1);
        }
        r.asks("10: the first style", f -> f.words(0, 1), 1);
        r.asks("10: the last style", f -> f.words(7, 1), 1);
    }

    private static void wordRanges() {
        Run r = run();
        r.asks("11: no nodes", f -> f.word(0, 0, 0), -1);
        r.letters(0, 2);
        for (int style : new int[] {-1, 8, 9, MIN, MAX}) {
            r.asks("11: word(" + style + ", 1, 0)", f -> f.word(style, 1, 0), -1);
            r.asks("11: word(" + style + ", 1, 1), ahead of -2", f -> f.word(style, 1, 1), -1);
        }
        for (int node : new int[] {-1, 2, 120, MIN, MAX}) {
            r.asks("11: word(7, " + node + ", 0)", f -> f.word(7, node, 0), -1);
            r.asks("11: word(7, " + node + ", 99), ahead of -2", f -> f.word(7, node, 99), -1);
        }
        r.does("11: a plus a", f -> f.node(2, 0, 1), 2);
        r.asks("11: i below 0", f -> f.word(1, 2, -1), -1);
        r.asks("11: i far below 0", f -> f.word(1, 2, MIN), -1);
        r.asks("11: the first", f -> f.word(1, 2, 0), 0);
        r.asks("11: the last", f -> f.word(1, 2, 2), 0);
        r.asks("11: not so many", f -> f.word(1, 2, 3), -2);
        r.asks("11: by far not so many", f -> f.word(1, 2, MAX), -2);
        r.asks("11: kept, the first", f -> f.word(0, 2, 0), 29);
        r.asks("11: kept, the last", f -> f.word(0, 2, 4), 30);
        r.asks("11: kept, not so many", f -> f.word(0, 2, 5), -2);
    }

    /** Digits without noughts ahead; 0 has one. */
    private static void digits() {
        int[] numbers = {0, 1, 9, 10, 99, 100, 999, 1000, 9999, 1001, 5060};
        for (int number : numbers) {
            Run r = run();
            String text = Integer.toString(number);
            r.does("10: the number " + text, f -> f.leaf(1, number), 0);
            r.asks("10: digits of " + text, f -> f.words(0, 0), text.length());
            for (int i = 0; i < text.length(); i++) {
                int at = i;
                r.asks("11: digit " + i + " of " + text, f -> f.word(1, 0, at), 10 + text.charAt(i) - '0');
            }
            r.asks("11: no digit more", f -> f.word(1, 0, text.length()), -2);
        }
    }

    /** LETTERS, NUMBERS and FENCED ones are never between begin and end. */
    private static void neverKept() {
        Run r = run();
        r.does("10: j", f -> f.leaf(0, 9), 0);
        r.does("10: 7", f -> f.leaf(1, 7), 1);
        r.does("10: open j close", f -> f.node(8, 0, 0), 2);
        r.does("10: open open j close close", f -> f.node(8, 2, 0), 3);
        int[] want = {1, 1, 3, 5};
        for (int n = 0; n < want.length; n++) {
            int node = n;
            r.asks("10: all kept, node " + n, f -> f.words(0, node), want[n]);
            r.asks("10: none kept, node " + n, f -> f.words(1, node), want[n]);
        }
        r.asks("11: open", f -> f.word(0, 3, 1), 26);
        r.asks("11: close", f -> f.word(0, 3, 3), 27);
    }

    /** 26 kept roots and a number: 78 words and its digits. */
    private static void eightyWords() {
        Run r = run();
        r.does("10: 10", f -> f.leaf(1, 10), 0);
        r.chain(7, 0, 1, 26);
        r.does("10: 100", f -> f.leaf(1, 100), 27);
        r.chain(7, 27, 28, 26);
        r.asks("10: 80 words", f -> f.words(0, 26), 80);
        r.asks("11: the first of 80", f -> f.word(0, 26, 0), 29);
        r.asks("11: the last of 80", f -> f.word(0, 26, 79), 30);
        r.asks("11: behind 80", f -> f.word(0, 26, 80), -2);
        r.asks("10: 81 words", f -> f.words(0, 53), -5);
        r.asks("11: the first of 81", f -> f.word(0, 53, 0), -5);
        r.asks("11: the 80th of 81", f -> f.word(0, 53, 79), -5);
        r.asks("11: the last of 81", f -> f.word(0, 53, 80), -5);
        r.asks("11: behind 81, -2 is ahead of -5", f -> f.word(0, 53, 81), -2);
        r.asks("11: i below 0 is ahead of -5", f -> f.word(0, 53, -1), -1);
        r.asks("10: another style", f -> f.words(1, 53), 29);
        r.does("10: roots not kept", f -> f.keeps(0, 7, false), 1);
        r.asks("10: can be said now", f -> f.words(0, 53), 29);
        r.asks("11: and its last word", f -> f.word(0, 53, 28), 10);
    }

    /** n kept pairs of numbers of two digits: 3 n + 2 (n + 1) words. */
    private static void eightyWordsOfPairs() {
        Run r = run();
        r.does("10: 99", f -> f.leaf(1, 99), 0);
        r.does("10: 999", f -> f.leaf(1, 999), 1);
        for (int i = 0; i < 15; i++) {
            int x = i == 0 ? 0 : i + 1;
            r.does("10: a pair", f -> f.node(6, x, 0), x == 0 ? 2 : x + 1);
        }
        r.asks("10: 15 pairs", f -> f.words(0, 16), 77);
        r.does("10: over 9", f -> f.leaf(1, 9), 17);
        r.does("10: 15 pairs and a root", f -> f.node(7, 16, 0), 18);
        r.asks("10: 80 words", f -> f.words(0, 18), 80);
        r.asks("11: the last", f -> f.word(0, 18, 79), 30);
        r.does("10: fenced", f -> f.node(8, 18, 0), 19);
        r.asks("10: 82 words", f -> f.words(0, 19), -5);
        r.asks("11: word 81 of 82", f -> f.word(0, 19, 81), -5);
        r.asks("11: behind 82", f -> f.word(0, 19, 82), -2);
        r.does("10: pairs of 999", f -> f.node(2, 1, 1), 20);
        r.does("10: more of them", f -> f.node(2, 20, 20), 21);
        r.does("10: more of them", f -> f.node(2, 21, 21), 22);
        r.does("10: more of them", f -> f.node(2, 22, 22), 23);
        r.does("10: more of them", f -> f.node(2, 23, 21), 24);
        r.asks("10: 20 numbers of three digits, not kept", f -> f.words(1, 24), 79);
        r.does("10: a root", f -> f.node(7, 24, 0), 25);
        r.asks("10: 80, not kept", f -> f.words(1, 25), 80);
        r.does("10: 20 numbers, one of four digits", f -> f.leaf(1, 1000), 26);
        r.does("10: a pair with it", f -> f.node(2, 26, 1), 27);
        r.does("10: two pairs with it", f -> f.node(2, 27, 20), 28);
        r.does("10: and 16 more", f -> f.node(2, 23, 28), 29);
        r.asks("10: 80 of pairs alone", f -> f.words(1, 29), 80);
        r.does("10: and 16 more, two of four digits", f -> f.node(2, 27, 27), 30);
        r.does("10: a pair with them", f -> f.node(2, 23, 30), 31);
        r.asks("10: 81 of pairs alone", f -> f.words(1, 31), -5);
    }

    private static void saidThoughNotRight() {
        Run r = run().letters(0, 1);
        r.does("10: a of a", f -> f.node(9, 0, 0), 1);
        r.asks("6: is not right", f -> f.look(1, 6), 0);
        r.asks("10: can be said", f -> f.words(1, 1), 3);
        r.asks("11: its letter", f -> f.word(1, 1, 0), 0);
        r.asks("11: of", f -> f.word(1, 1, 1), 28);
        r.does("5: a is a function", f -> f.means(0, true), 1);
        r.asks("10: still", f -> f.words(1, 1), 3);
        r.asks("10: the letter, too", f -> f.words(1, 0), 1);
    }

    private static void soundRanges() {
        Run r = run();
        r.asks("12: no nodes", f -> f.sound(0, 0, 0), -1);
        r.letters(0, 2);
        for (int style : new int[] {-1, 8, 9, MIN, MAX}) {
            r.asks("12: sound(" + style + ", 0, 1)", f -> f.sound(style, 0, 1), -1);
        }
        for (int node : new int[] {-1, 2, 120, MIN, MAX}) {
            r.asks("12: sound(0, " + node + ", 0)", f -> f.sound(0, node, 0), -1);
            r.asks("12: sound(7, 0, " + node + ")", f -> f.sound(7, 0, node), -1);
        }
        r.asks("12: the first style", f -> f.sound(0, 0, 1), 1);
        r.asks("12: the last style", f -> f.sound(7, 0, 1), 1);
        r.does("12: a plus a", f -> f.node(2, 0, 1), 2);
        r.asks("12: one is the other's beginning", f -> f.sound(7, 0, 2), 0);
        r.asks("12: the other way round", f -> f.sound(7, 2, 0), 0);
        r.does("12: a times a", f -> f.node(3, 0, 1), 3);
        r.asks("12: as many, one unlike", f -> f.sound(7, 3, 2), 0);
        r.does("12: 1", f -> f.leaf(1, 1), 4);
        r.does("12: b", f -> f.leaf(0, 1), 5);
        r.asks("12: a number and a letter", f -> f.sound(7, 4, 5), 0);
    }

    private static void soundOfEighty() {
        Run r = run();
        r.does("12: 10", f -> f.leaf(1, 10), 0);
        r.chain(7, 0, 1, 26);
        r.does("12: 100", f -> f.leaf(1, 100), 27);
        r.chain(7, 27, 28, 26);
        r.does("12: 11", f -> f.leaf(1, 11), 54);
        r.chain(7, 54, 55, 26);
        r.asks("12: 80 and the same", f -> f.sound(0, 26, 26), 1);
        r.asks("12: 80 and others", f -> f.sound(0, 26, 80), 0);
        r.asks("12: 81 and 80", f -> f.sound(0, 53, 26), -5);
        r.asks("12: 80 and 81", f -> f.sound(0, 26, 53), -5);
        r.asks("12: 81 and the same", f -> f.sound(0, 53, 53), -5);
        r.asks("12: 81 and none", f -> f.sound(0, 53, 81), -1);
        r.asks("12: another style", f -> f.sound(1, 53, 53), 1);
    }

    private static void clearRanges() {
        Run r = run();
        for (int style : new int[] {-1, 8, 9, MIN, MAX}) {
            r.asks("13: clear(" + style + ", 1)", f -> f.clear(style, 1), -1);
            r.asks("13: clear(" + style + ", 5)", f -> f.clear(style, 5), -1);
        }
        for (int n : new int[] {-1, 0, 5, MIN, MAX}) {
            r.asks("13: clear(0, " + n + ")", f -> f.clear(0, n), -1);
            r.asks("13: clear(7, " + n + ")", f -> f.clear(7, n), -1);
        }
        for (int n = 1; n <= 4; n++) {
            int most = n;
            r.asks("13: clear(0, " + n + ")", f -> f.clear(0, most), 1);
            r.asks("13: clear(7, " + n + ")", f -> f.clear(7, most), n < 4 ? 1 : 0);
        }
    }

    /** A style is not clear at four NODES, if one KIND of pairs and one of ROOTS, CALLS are not KEPT. */
    private static void clearKinds() {
        for (int prefix : new int[] {7, 9}) {
            for (int pair = 2; pair <= 6; pair++) {
                int p = pair;
                Run r = run();
                r.does("13: pairs of " + p + " not kept", f -> f.keeps(0, p, false), 1);
                r.asks("13: all others kept", f -> f.clear(0, 4), 1);
                r.does("13: nor those of " + prefix, f -> f.keeps(0, prefix, false), 1);
                r.asks("13: three nodes", f -> f.clear(0, 3), 1);
                r.asks("13: four nodes", f -> f.clear(0, 4), 0);
                r.does("13: pairs of " + p + " kept", f -> f.keeps(0, p, true), 1);
                r.asks("13: one is not kept", f -> f.clear(0, 4), 1);
            }
        }
        Run none = run();
        for (int kind = 2; kind <= 6; kind++) {
            int k = kind;
            none.asks("13: pairs from " + k + " on are not kept", f -> f.clear(5, 4), 0);
            none.does("13: pairs kept", f -> f.keeps(5, k, true), 1);
        }
        none.asks("13: all pairs are kept", f -> f.clear(5, 4), 1);
    }

    /** Neither MEANINGS nor what is on the page or in THE EAR matter. */
    private static void clearWhateverElse() {
        Run r = run().letters(0, 120);
        r.words(0, 20, 0, 20, 0);
        for (int letter : new int[] {0, 9}) {
            r.does("13: a function", f -> f.means(letter, true), 1);
            r.asks("13: not clear", f -> f.clear(1, 4), 0);
            r.asks("13: clear", f -> f.clear(0, 4), 1);
        }
    }
}
