import java.util.ArrayList;
import java.util.HashMap;
import java.util.List;
import java.util.Map;

/**
 * A run of calls on a new object, each with the answer that is due. What is asked or refused
 * must leave all as it was: the run is made again on new objects, with that call and without
 * it, and all that can be seen of them is compared.
 */
final class Run {
    /** What is told of an object holds for so many calls only. */
    static final int MOST_CALLS = 512;

    private static final int NODE_PRINTS = 4;
    private static final int SHELF_PRINTS = 8;
    private static final int PRINTS = 3 + NODE_PRINTS + SHELF_PRINTS;

    interface Call {
        long on(FormulaVoice f);
    }

    private final Check check;
    private final FormulaVoice own = new FormulaVoice();
    private int calls = 0;
    private final List<Call> changes = new ArrayList<>();
    private final Map<Integer, List<Long>> prints = new HashMap<>();

    Run(Check check) {
        this.check = check;
    }

    /** A call that may change something. */
    Run does(String told, Call call, long want) {
        check.due(told, callOwn(call), want);
        changes.add(call);
        prints.clear();
        return this;
    }

    /** A question, or a call that is refused: nothing is changed by it. */
    Run asks(String told, Call call, long want) {
        check.due(told, callOwn(call), want);
        for (int part = 0; part < PRINTS; part++) {
            FormulaVoice again = again();
            check.due(told + ", again", call.on(again), want);
            check.due(told + " changes nothing", print(again, part).equals(printBefore(part)) ? 1 : 0, 1);
        }
        return this;
    }

    /** So many letters come, from a NODE's number on. */
    Run letters(int from, int many) {
        for (int n = from; n < from + many; n++) {
            does("letter " + n, f -> f.leaf(0, 0), n);
        }
        return this;
    }

    /** So many NODES of one PART, each of the one ahead; the first one's PART is told. */
    Run chain(int kind, int part, int from, int many) {
        for (int i = 0; i < many; i++) {
            int x = i == 0 ? part : from + i - 1;
            does("chain, node " + (from + i), f -> f.node(kind, x, 0), from + i);
        }
        return this;
    }

    /** Words come to THE EAR, one by one. */
    Run words(int... words) {
        for (int w : words) {
            calls++;
            Call call = f -> f.hear(1, w);
            if (call.on(own) < 0) {
                throw new IllegalStateException("the ear refuses " + w);
            }
            changes.add(call);
        }
        prints.clear();
        return this;
    }

    private long callOwn(Call call) {
        calls++;
        if (calls > MOST_CALLS) {
            throw new IllegalStateException("too many calls for one object");
        }
        return call.on(own);
    }

    private FormulaVoice again() {
        FormulaVoice f = new FormulaVoice();
        for (Call call : changes) {
            call.on(f);
        }
        return f;
    }

    private List<Long> printBefore(int part) {
        return prints.computeIfAbsent(part, p -> print(again(), p));
    }

    /** A part of all that can be seen; the object is not used behind it. */
    private List<Long> print(FormulaVoice f, int part) {
        List<Long> to = new ArrayList<>();
        if (part == 0) {
            printEarAndWalk(f, to);
        } else if (part == 1) {
            printMeanings(f, to);
        } else if (part == 2) {
            printStyles(f, to);
        } else if (part < 3 + NODE_PRINTS) {
            printNodes(f, (part - 3) * 30, to);
        } else {
            printShelf(f, part - 3 - NODE_PRINTS, to);
        }
        if (changes.size() + 1 + to.size() > MOST_CALLS) {
            throw new IllegalStateException("too many calls for one object");
        }
        return to;
    }

    private static void printEarAndWalk(FormulaVoice f, List<Long> to) {
        for (int what = 0; what <= 2; what++) {
            to.add((long) f.count(what));
            to.add(Check.where(f, what));
        }
        for (int i = 0; i <= 20; i++) {
            to.add((long) f.ear(i));
        }
        // Up to the top, and to see which PART each step took.
        for (int i = 0; i < 40; i++) {
            to.add((long) f.go(2));
            to.add(Check.where(f, 0));
        }
    }

    private static void printMeanings(FormulaVoice f, List<Long> to) {
        for (int letter = 0; letter <= 9; letter++) {
            to.add((long) f.means(letter, true));
        }
    }

    private static void printStyles(FormulaVoice f, List<Long> to) {
        for (int style = 0; style <= 7; style++) {
            for (int kind = 2; kind <= 9; kind++) {
                to.add((long) f.keeps(style, kind, true));
            }
        }
    }

    private static void printNodes(FormulaVoice f, int from, List<Long> to) {
        for (int n = from; n < from + 30; n++) {
            for (int what = 0; what <= 6; what++) {
                to.add((long) f.look(n, what));
            }
        }
    }

    private static void printShelf(FormulaVoice f, int d, List<Long> to) {
        to.add((long) f.weight(d));
        to.add((long) f.toss(d));
        for (int i = 0; i <= 60; i++) {
            to.add(Check.element(f, d, i));
        }
        int beside = d == 0 ? 1 : 0;
        to.add((long) f.make(beside, 3, 0));
        to.add((long) f.copy(d, 0, beside, 0, 0));
    }
}
