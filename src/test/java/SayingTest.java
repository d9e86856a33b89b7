/** Promises 10 to 13: saying. */
public final class SayingTest {
    private static final Check check = new Check("saying");

    private static void due(String call, long got, long want) {
        check.due(call, got, want);
    }

    private static void dueWords(String name, FormulaVoice f, int style, int node, int... want) {
        due(name + ", words", f.words(style, node), want.length);
        for (int i = 0; i < want.length; i++) {
            due(name + ", word " + i, f.word(style, node, i), want[i]);
        }
        due(name + ", behind the last word", f.word(style, node, want.length), -2);
    }

    public static void main(String[] args) {
        eachKind();
        refusals();
        tooLong();
        sound();
        clear();
        clearAsTheModel();
        check.end();
    }

    private static void eachKind() {
        FormulaVoice f = new FormulaVoice();
        f.leaf(0, 3);
        f.leaf(1, 0);
        f.leaf(1, 1080);
        f.leaf(1, 99);
        dueWords("10: letter", f, 0, 0, 3);
        dueWords("10: nought", f, 0, 1, 10);
        dueWords("10: 1080", f, 1, 2, 11, 10, 18, 10);
        dueWords("10: 99", f, 1, 3, 19, 19);
        for (int kind = 2; kind <= 6; kind++) {
            int n = f.node(kind, 0, 3);
            dueWords("11: pair " + kind, f, 1, n, 3, 18 + kind, 19, 19);
            dueWords("11: kept pair " + kind, f, 0, n, 29, 3, 18 + kind, 19, 19, 30);
        }
        int root = f.node(7, 0, 0);
        int fenced = f.node(8, root, 0);
        int call = f.node(9, fenced, 9);
        dueWords("11: root", f, 1, root, 25, 3);
        dueWords("11: kept root", f, 0, root, 29, 25, 3, 30);
        dueWords("11: fenced", f, 1, fenced, 26, 25, 3, 27);
        dueWords("11: fenced, never kept", f, 0, fenced, 26, 29, 25, 3, 30, 27);
        dueWords("11: call, not right", f, 1, call, 9, 28, 26, 25, 3, 27);
        dueWords("11: kept call", f, 0, call, 29, 9, 28, 26, 29, 25, 3, 30, 27, 30);
        f.keeps(5, 9, true);
        dueWords("11: calls alone kept", f, 5, call, 29, 9, 28, 26, 25, 3, 27, 30);
    }

    private static void refusals() {
        FormulaVoice f = new FormulaVoice();
        f.leaf(0, 0);
        due("10: words(8, 0)", f.words(8, 0), -1);
        due("10: words(-1, 0)", f.words(-1, 0), -1);
        due("10: words(0, 1)", f.words(0, 1), -1);
        due("10: words(0, -1)", f.words(0, -1), -1);
        due("11: word(8, 0, 0)", f.word(8, 0, 0), -1);
        due("11: word(0, 1, 0)", f.word(0, 1, 0), -1);
        due("11: word(0, 0, -1)", f.word(0, 0, -1), -1);
        due("11: word(0, 0, 1)", f.word(0, 0, 1), -2);
        due("12: sound(8, 0, 0)", f.sound(8, 0, 0), -1);
        due("12: sound(0, 0, 1)", f.sound(0, 0, 1), -1);
        due("12: sound(0, 1, 0)", f.sound(0, 1, 0), -1);
    }

    /** A chain of 26 kept roots has 79 words with its letter, 80 with a number of two digits. */
    private static void tooLong() {
        FormulaVoice f = new FormulaVoice();
        int least = f.leaf(1, 10);
        int more = f.leaf(1, 100);
        int letter = f.leaf(0, 0);
        int n = least;
        int m = more;
        for (int i = 0; i < 26; i++) {
            n = f.node(7, n, 0);
            m = f.node(7, m, 0);
        }
        due("10: 80 words", f.words(0, n), 80);
        due("11: the last of them", f.word(0, n, 79), 30);
        due("11: behind it", f.word(0, n, 80), -2);
        due("10: 81 words", f.words(0, m), -5);
        due("11: word 0 of 81", f.word(0, m, 0), -5);
        due("11: word 80 of 81", f.word(0, m, 80), -5);
        due("11: word 81 of 81: -2 is ahead of -5", f.word(0, m, 81), -2);
        due("10: without begin and end", f.words(1, m), 29);
        due("12: one of them", f.sound(0, n, m), -5);
        due("12: the other one", f.sound(0, m, letter), -5);
        due("12: it can be said in another style", f.sound(1, m, m), 1);
        due("15: listen", f.listen(0, m), -5);
        due("15: listen", f.listen(0, n), -2);
    }

    private static void sound() {
        FormulaVoice f = new FormulaVoice();
        f.leaf(0, 0);
        f.leaf(0, 1);
        f.leaf(0, 0);
        f.node(7, 0, 0);
        f.node(2, 3, 1);
        f.node(2, 0, 1);
        f.node(7, 5, 0);
        due("12: root a plus b", f.sound(1, 4, 6), 1);
        due("12: all kept", f.sound(0, 4, 6), 0);
        due("12: alike", f.sound(0, 0, 2), 1);
        due("12: unlike", f.sound(0, 0, 1), 0);
        due("12: of other lengths", f.sound(1, 0, 3), 0);
        f.keeps(1, 7, true);
        due("12: roots kept", f.sound(1, 4, 6), 0);
    }

    private static void clear() {
        FormulaVoice f = new FormulaVoice();
        due("13: clear(8, 1)", f.clear(8, 1), -1);
        due("13: clear(-1, 1)", f.clear(-1, 1), -1);
        due("13: clear(0, 0)", f.clear(0, 0), -1);
        due("13: clear(0, 5)", f.clear(0, 5), -1);
        due("13: clear(0, 4)", f.clear(0, 4), 1);
        due("13: clear(1, 3)", f.clear(1, 3), 1);
        due("13: clear(1, 4)", f.clear(1, 4), 0);
        f.keeps(1, 7, true);
        due("13: calls are still bare", f.clear(1, 4), 0);
        f.keeps(1, 9, true);
        due("13: no prefix is bare", f.clear(1, 4), 1);
        f.means(0, true);
        due("13: meanings don't matter", f.clear(1, 4), 1);
        due("13: meanings don't matter", f.clear(2, 4), 0);
    }

    private static void clearAsTheModel() {
        for (int mask = 0; mask < 128; mask++) {
            FormulaVoice f = new FormulaVoice();
            Model m = new Model();
            for (int bit = 0; bit < 7; bit++) {
                int kind = bit == 6 ? 9 : bit + 2;
                boolean is = (mask >> bit & 1) != 0;
                f.keeps(4, kind, is);
                m.keeps(4, kind, is);
            }
            for (int n = 1; n <= 4; n++) {
                due("13: clear(4, " + n + "), kept " + mask, f.clear(4, n), m.clear(4, n));
            }
        }
    }
}
