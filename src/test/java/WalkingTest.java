/** Promises 23 to 27: walking. */
public final class WalkingTest {
    private static final Check check = new Check("walking");

    private static void due(String call, long got, long want) {
        check.due(call, got, want);
    }

    public static void main(String[] args) {
        refusals();
        ways();
        paths();
        deep();
        glance();
        check.end();
    }

    private static void refusals() {
        FormulaVoice f = new FormulaVoice();
        f.leaf(0, 0);
        due("23: walk(1)", f.walk(1), -1);
        due("23: walk(-1)", f.walk(-1), -1);
        due("24: go(0), no walk", f.go(0), -2);
        due("24: go(4), no walk", f.go(4), -1);
        due("24: go(-1), no walk", f.go(-1), -1);
        due("25: where(2), no walk", Check.where(f, 2), -2);
        due("25: where(3), no walk", Check.where(f, 3), -1);
        due("25: where(-1), no walk", Check.where(f, -1), -1);
        due("26: lead(0), no walk", f.lead(0), -2);
        due("26: lead(-1), no walk", f.lead(-1), -2);
        due("27: glance(0, 0), no walk", f.glance(0, 0), -2);
        due("27: glance(8, 0), no walk", f.glance(8, 0), -1);
        due("27: glance(0, 10), no walk", f.glance(0, 10), -1);
        due("27: glance(0, -1), no walk", f.glance(0, -1), -1);
        due("27: glance(-1, 0), no walk", f.glance(-1, 0), -1);
    }

    private static void ways() {
        FormulaVoice f = new FormulaVoice();
        int a = f.leaf(0, 0);
        int b = f.leaf(0, 1);
        int sum = f.node(2, a, b);
        int call = f.node(9, sum, 4);
        int top = f.node(5, call, sum);
        due("23: walk(top)", f.walk(top), 0);
        due("24: up from the top", f.go(2), -3);
        due("24: beside the top", f.go(3), -3);
        due("24: to x", f.go(0), call);
        due("24: a call has no y", f.go(1), -3);
        due("24: beside", f.go(3), sum);
        due("25: where(0)", Check.where(f, 0), 2);
        due("24: beside again", f.go(3), call);
        due("24: to x", f.go(0), sum);
        due("24: nothing beside", f.go(3), -3);
        due("25: stays", Check.where(f, 2), sum);
        due("24: to y", f.go(1), b);
        due("24: a letter has no x", f.go(0), -3);
        due("25: where(1)", Check.where(f, 1), 3);
        due("25: where(0)", Check.where(f, 0), 1 + 3 + 2 * 9);
        due("24: up", f.go(2), sum);
        due("24: up", f.go(2), call);
        due("24: up", f.go(2), top);
        due("25: where(0)", Check.where(f, 0), 0);
        due("23: another walk", f.walk(a), 0);
        due("25: where(2)", Check.where(f, 2), a);
        due("23: walk(9)", f.walk(9), -1);
        due("25: where(2) as it was", Check.where(f, 2), a);
    }

    private static void paths() {
        FormulaVoice f = new FormulaVoice();
        int a = f.leaf(0, 0);
        int b = f.leaf(0, 1);
        int sum = f.node(2, a, b);
        int top = f.node(3, sum, sum);
        f.walk(top);
        due("26: lead(8)", f.lead(8), b);
        due("26: lead(5), from the top again", f.lead(5), a);
        due("25: where(0)", Check.where(f, 0), 5);
        due("26: lead(-1)", f.lead(-1), -1);
        due("26: lead(-8)", f.lead(-8), -1);
        due("26: a nought inside", f.lead(1 + 9), -1);
        due("26: a nought first", f.lead(3), -1);
        due("26: too far", f.lead(1 + 3 + 9), -1);
        due("26: much too far", f.lead(Integer.MAX_VALUE), -1);
        due("25: stays", Check.where(f, 0), 5);
        due("26: lead(0)", f.lead(0), top);
        due("25: where(1)", Check.where(f, 1), 0);
    }

    private static void deep() {
        FormulaVoice f = new FormulaVoice();
        int n = f.leaf(0, 0);
        for (int i = 0; i < 39; i++) {
            n = f.node(7, n, 0);
        }
        f.walk(n);
        for (int i = 0; i < 19; i++) {
            f.go(0);
        }
        long nineteen = 581130733;
        due("25: 19 deep", Check.where(f, 0), nineteen);
        due("24: go(0)", f.go(0), 19);
        due("25: 20 deep", Check.where(f, 0), Check.ILLEGAL_STATE);
        due("25: where(1)", Check.where(f, 1), 20);
        due("25: where(2)", Check.where(f, 2), 19);
        for (int i = 0; i < 19; i++) {
            f.go(0);
        }
        due("25: where(1)", Check.where(f, 1), 39);
        due("24: at the end", f.go(0), -3);
        due("26: 19 steps", f.lead((int) nineteen), 20);
        due("26: 20 steps", f.lead(1743392200), 19);
        due("25: where(1)", Check.where(f, 1), 20);
        f.walk(19);
        due("26: 19 steps, to the end", f.lead((int) nineteen), 0);
        due("26: 20 steps, one too many", f.lead(1743392200), -1);
        FormulaVoice g = new FormulaVoice();
        int leaf = g.leaf(0, 0);
        int m = leaf;
        for (int i = 0; i < 19; i++) {
            m = g.node(2, leaf, m);
        }
        g.walk(m);
        for (int i = 0; i < 19; i++) {
            g.go(1);
        }
        due("25: 19 times y", Check.where(g, 0), 1162261466);
        due("26: lead there", g.lead(1162261466), leaf);
    }

    private static void glance() {
        FormulaVoice f = new FormulaVoice();
        int a = f.leaf(0, 0);
        int b = f.leaf(1, 1234);
        int sum = f.node(2, a, b);
        int fenced = f.node(8, sum, 0);
        int call = f.node(9, fenced, 4);
        int top = f.node(5, call, b);
        f.walk(top);
        int[] bare = {3, 1 + 3 + 4, 1 + 2 + 3 + 4, 1 + 2 + 2 + 3 + 4, 1 + 2 + 2 + 1 + 1 + 4 + 4, 15};
        int[] kept = {5, 3 + 5 + 4, 3 + 4 + 3 + 4, 3 + 4 + 2 + 5 + 4, 3 + 4 + 2 + 3 + 1 + 4 + 4, 21};
        for (int n = 0; n < 6; n++) {
            due("27: glance(1, " + n + ")", f.glance(1, n), bare[n]);
            due("27: glance(0, " + n + ")", f.glance(0, n), kept[n]);
        }
        due("27: glance(1, 9)", f.glance(1, 9), f.words(1, top));
        f.go(1);
        due("27: a number here", f.glance(0, 0), 4);
        f.lead(1);
        due("27: what is here, not the top", f.glance(1, 0), 3);
        int big = f.node(2, b, b);
        for (int i = 0; i < 3; i++) {
            big = f.node(2, big, big);
        }
        f.walk(big);
        due("27: more than 80", f.glance(0, 4), -5);
        due("27: not so deep", f.glance(0, 3), 15 * 3 + 16);
        due("27: just 79", f.glance(1, 4), 79);
    }
}
