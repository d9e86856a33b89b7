import java.util.Random;

/** Long runs of calls, the same for the class and for the model, by a fixed seed. */
public final class ModelTest {
    private static final int CALLS = 512;
    private final Check check;
    private final Random random;
    private final FormulaVoice f = new FormulaVoice();
    private final Model m = new Model();
    private final int mood;

    private ModelTest(Check check, long seed) {
        this.check = check;
        this.random = new Random(seed);
        this.mood = (int) (seed % 4);
    }

    public static void main(String[] args) {
        int runs = args.length > 0 ? Integer.parseInt(args[0]) : 300;
        int first = args.length > 1 ? Integer.parseInt(args[1]) : 0;
        Check check = new Check("model");
        for (int seed = first; seed < first + runs; seed++) {
            ModelTest test = new ModelTest(check, seed);
            for (int i = 0; i < CALLS; i++) {
                test.call();
            }
        }
        check.end();
    }

    private int in(int low, int high) {
        return low + random.nextInt(high - low + 1);
    }

    /** Mostly a number within a range, now and then one beside it or far from it. */
    private int near(int low, int high) {
        int luck = random.nextInt(40);
        if (luck == 0) {
            return low - 1;
        }
        if (luck == 1) {
            return high + 1;
        }
        if (luck == 2) {
            int[] far = {Integer.MIN_VALUE, Integer.MAX_VALUE, -1, 1000000};
            return far[random.nextInt(far.length)];
        }
        return in(low, high);
    }

    private int node() {
        int n = m.nodes.size();
        if (n == 0) {
            return near(0, 1);
        }
        return random.nextInt(3) == 0 ? near(0, n - 1) : near(Math.max(0, n - 8), n - 1);
    }

    private int number() {
        int[] bounds = {0, 9, 99, 999, 9999};
        return near(0, bounds[random.nextInt(5)]);
    }

    private void due(String call, long got, long want) {
        check.due(call, got, want);
    }

    private void call() {
        int kind = random.nextInt(100);
        if (kind < 40) {
            pageCall();
        } else if (kind < 50) {
            sayingCall();
        } else if (kind < 75) {
            hearingCall();
        } else if (kind < 87) {
            walkingCall();
        } else {
            lineCall();
        }
    }

    private void pageCall() {
        int a = node();
        int b = node();
        switch (random.nextInt(14)) {
            case 0, 1 -> {
                int k = near(0, 1);
                int v = k == 0 ? near(0, mood == 3 ? 2 : 9) : number();
                due("leaf(" + k + ", " + v + ")", f.leaf(k, v), m.leaf(k, v));
            }
            case 2, 3, 4, 5, 6 -> {
                int k = near(2, mood == 2 ? 7 : 9);
                int y = k == 9 ? near(0, mood == 3 ? 2 : 9) : b;
                due("node(" + k + ", " + a + ", " + y + ")", f.node(k, a, y), m.node(k, a, y));
            }
            case 7 -> {
                int many = in(1, 8);
                for (int i = 0; i < many; i++) {
                    due("undo()", f.undo(), m.undo());
                }
            }
            case 8 -> {
                int l = near(0, mood == 3 ? 2 : 9);
                boolean is = random.nextBoolean();
                due("means(" + l + ", " + is + ")", f.means(l, is), m.means(l, is));
            }
            case 9, 10 -> {
                int w = near(0, 6);
                due("look(" + a + ", " + w + ")", f.look(a, w), m.look(a, w));
            }
            case 11 -> due("alike(" + a + ", " + b + ")", f.alike(a, b), m.alike(a, b));
            case 12 -> due("times(" + a + ", " + b + ")", f.times(a, b), m.times(a, b));
            default -> {
                int s = near(0, 7);
                int k = near(2, 9);
                boolean is = random.nextBoolean();
                due("keeps(" + s + ", " + k + ", " + is + ")", f.keeps(s, k, is), m.keeps(s, k, is));
            }
        }
    }

    private void sayingCall() {
        int a = node();
        int b = node();
        int s = near(0, 7);
        switch (random.nextInt(4)) {
            case 0 -> due("words(" + s + ", " + a + ")", f.words(s, a), m.words(s, a));
            case 1 -> {
                int i = near(0, random.nextBoolean() ? 10 : 90);
                due("word(" + s + ", " + a + ", " + i + ")", f.word(s, a, i), m.word(s, a, i));
            }
            case 2 -> due("sound(" + s + ", " + a + ", " + b + ")", f.sound(s, a, b), m.sound(s, a, b));
            default -> {
                int n = near(1, 4);
                due("clear(" + s + ", " + n + ")", f.clear(s, n), m.clear(s, n));
            }
        }
    }

    /** Words that often are said well: operands and pairs by turns, with begin and end here and there. */
    private void tellSense() {
        f.hush();
        m.hush();
        boolean operand = true;
        int many = in(1, 14);
        for (int i = 0; i < many; i++) {
            int w = operand ? (random.nextInt(4) == 0 ? 25 : random.nextInt(4) == 0 ? in(10, 19) : in(0, 3)) : in(20, 24);
            operand = operand ? w == 25 : true;
            due("hear(1, " + w + ")", f.hear(1, w), m.hear(1, w));
        }
        if (operand) {
            due("hear(1, 0)", f.hear(1, 0), m.hear(1, 0));
        }
    }

    private void hearingCall() {
        int a = node();
        int s = random.nextInt(3) == 0 ? 8 : near(0, 8);
        long total;
        try {
            total = m.readings(s);
        } catch (Model.TooMany e) {
            f.hush();
            m.hush();
            return;
        }
        int most = (int) Math.max(1, Math.min(total, 40));
        long k = near(0, most);
        switch (random.nextInt(14)) {
            case 0 -> {
                int n = near(1, 5);
                int w = random.nextInt(6) == 0 ? random.nextInt() : random.nextInt(1 << 25);
                due("hear(" + n + ", " + w + ")", f.hear(n, w), m.hear(n, w));
            }
            case 1 -> tellSense();
            case 2, 3 -> due("listen(" + s + ", " + a + ")", f.listen(s, a), m.listen(s, a));
            case 4 -> {
                if (random.nextInt(5) == 0) {
                    due("hush()", f.hush(), m.hush());
                }
            }
            case 5 -> {
                int i = near(0, 19);
                due("ear(" + i + ")", f.ear(i), m.ear(i));
            }
            case 6, 7 -> due("readings(" + s + ")", Check.readings(f, s), total);
            case 8, 9 -> due("write(" + s + ", " + k + ")", f.write(s, k), m.write(s, k));
            case 10, 11 -> due("place(" + s + ", " + a + ")", f.place(s, a), m.place(s, a));
            case 12 -> {
                long other = near(0, most);
                due("doubt(" + s + ", " + k + ", " + other + ")", f.doubt(s, k, other), m.doubt(s, k, other));
            }
            default -> {
                due("fewest(" + a + ")", f.fewest(a), m.fewest(a));
                for (int i = 0; i < m.ear.size(); i++) {
                    due("ear(" + i + ") behind fewest(" + a + ")", f.ear(i), m.ear(i));
                }
            }
        }
    }

    private void walkingCall() {
        switch (random.nextInt(8)) {
            case 0 -> {
                int a = node();
                due("walk(" + a + ")", f.walk(a), m.walk(a));
            }
            case 1, 2, 3 -> {
                int w = near(0, 3);
                due("go(" + w + ")", f.go(w), m.go(w));
            }
            case 4, 5 -> {
                int w = near(0, 2);
                due("where(" + w + ")", Check.where(f, w), m.where(w));
            }
            case 6 -> {
                int p = random.nextInt(5) == 0 ? random.nextInt() : near(0, 80);
                due("lead(" + p + ")", f.lead(p), m.lead(p));
            }
            default -> {
                int s = near(0, 7);
                int n = near(0, 9);
                due("glance(" + s + ", " + n + ")", f.glance(s, n), m.glance(s, n));
            }
        }
    }

    private void lineCall() {
        int a = node();
        int b = node();
        int d = near(0, 7);
        switch (random.nextInt(11)) {
            case 0 -> due("changed(" + a + ", " + b + ")", f.changed(a, b), m.changed(a, b));
            case 1 -> due("exchanged(" + a + ", " + b + ")", f.exchanged(a, b), m.exchanged(a, b));
            case 2 -> {
                int w = near(0, 2);
                due("count(" + w + ")", f.count(w), m.count(w));
            }
            case 3, 4 -> {
                int w = near(0, 4);
                due("keep(" + d + ", " + w + ", " + a + ")", f.keep(d, w, a), m.keep(d, w, a));
            }
            case 5 -> {
                int w = near(3, 4);
                int n = near(0, 60);
                due("make(" + d + ", " + w + ", " + n + ")", f.make(d, w, n), m.make(d, w, n));
            }
            case 6, 7 -> {
                int i = near(0, 12);
                due("element(" + d + ", " + i + ")", Check.element(f, d, i), m.element(d, i));
            }
            case 8 -> {
                int i = near(0, 8);
                int e = near(0, 7);
                int j = near(0, 8);
                int n = near(0, 12);
                String call = "copy(" + d + ", " + i + ", " + e + ", " + j + ", " + n + ")";
                due(call, f.copy(d, i, e, j, n), m.copy(d, i, e, j, n));
            }
            case 9 -> due("weight(" + d + ")", f.weight(d), m.weight(d));
            default -> due("toss(" + d + ")", f.toss(d), m.toss(d));
        }
    }
}
