/**
 * Formulas as trees of nodes, said as rows of words and heard again in all ways.
 * What each call answers stands in the document, promise by promise.
 */
public final class FormulaVoice {
    private static final int LETTER = 0;
    private static final int NUMBER = 1;
    private static final int PLUS = 2;
    private static final int POWER = 5;
    private static final int INDEX = 6;
    private static final int ROOT = 7;
    private static final int FENCED = 8;
    private static final int CALL = 9;

    /** A pair's word is its KIND and this: 20 plus for KIND 2, and so on. */
    private static final int PAIR_WORDS = 18;
    private static final int DIGITS = 10;
    private static final int ROOT_WORD = 25;
    private static final int OPEN = 26;
    private static final int CLOSE = 27;
    private static final int OF = 28;
    private static final int BEGIN = 29;
    private static final int END = 30;

    private static final int MOST_NODES = 120;
    private static final int MOST_SIZE = 40;
    private static final int MOST_SAID = 80;
    private static final int MOST_HEARD = 20;
    private static final int MOST_CHOICES = 8;
    private static final int LETTERS = 10;
    private static final int GREATEST_NUMBER = 9999;
    private static final int LONGEST_NUMBER = 4;
    private static final long MOST_READINGS = 1000000000000000L;

    private static final int STYLES = 8;
    private static final int FREE = 8;
    private static final int ALL_KINDS = 0x3FF;
    /** KINDS 2 .. 7 and 9, a bit for each. */
    private static final int KEEPABLE = 0x2FC;

    /** All PATHS down to here fit an int, with digits to the base 3. */
    private static final int DEEPEST_PATH = 19;
    private static final int LONGEST_ROW = 60;
    private static final int SHELVES = 8;
    private static final int HOLDS_NOTHING = 0;
    private static final int HOLDS_NODE = 1;
    private static final int HOLDS_BYTES = 3;
    private static final int HOLDS_CHARS = 4;

    /** Stands where a NODE has no v, x or y. */
    private static final int NONE = -1;

    private final Page page;
    /** The NODES of READINGS that are looked at, but not written down. */
    private final Page draft;
    private final Speech speech;
    private final Speech otherSpeech;
    private final Hearing hearing;
    private final Walk route;
    private final Shelf[] shelves;
    /** For each style a bit for each KIND that is KEPT. */
    private final int[] styles;
    /** A bit for each letter that is a FUNCTION. */
    private int functions;

    public FormulaVoice() {
        page = new Page();
        draft = new Page();
        speech = new Speech();
        otherSpeech = new Speech();
        hearing = new Hearing();
        route = new Walk();
        shelves = new Shelf[SHELVES];
        for (int d = 0; d < SHELVES; d++) {
            shelves[d] = new Shelf();
        }
        styles = new int[STYLES];
        styles[0] = KEEPABLE;
        functions = 0;
    }

    // ---- the page

    public int leaf(int kind, int v) {
        if (kind != LETTER && kind != NUMBER) {
            return -1;
        }
        if (v < 0 || v > (kind == LETTER ? LETTERS - 1 : GREATEST_NUMBER)) {
            return -1;
        }
        return page.isFull() ? -2 : page.put(kind, v, NONE, NONE);
    }

    public int node(int kind, int x, int y) {
        if (kind < PLUS || kind > CALL || !page.has(x)) {
            return -1;
        }
        boolean pair = Kinds.isPair(kind);
        if (pair && !page.has(y) || kind == CALL && !isLetter(y)) {
            return -1;
        }
        if (page.isFull()) {
            return -2;
        }
        int second = pair ? y : NONE;
        if (1 + page.sizeOf(x) + page.sizeOf(second) > MOST_SIZE) {
            return -3;
        }
        return page.put(kind, kind == CALL ? y : NONE, x, second);
    }

    public int undo() {
        if (page.used == 0) {
            return -1;
        }
        // Parts come ahead of what they are parts of: only the last NODE's own FORMULA has it.
        if (route.isBegun() && route.top() == page.used - 1) {
            return -3;
        }
        page.used--;
        return page.used;
    }

    public int means(int letter, boolean function) {
        if (!isLetter(letter)) {
            return -1;
        }
        int before = functions;
        functions = Kinds.withBit(functions, letter, function);
        return functions == before ? 0 : 1;
    }

    public int look(int node, int what) {
        if (!page.has(node)) {
            return -1;
        }
        switch (what) {
            case 0:
                return page.kinds[node];
            case 1:
                return orMissing(page.values[node]);
            case 2:
                return orMissing(page.xs[node]);
            case 3:
                return orMissing(page.ys[node]);
            case 4:
                return page.sizes[node];
            case 5:
                return page.depths[node];
            case 6:
                return page.isRight(node, functions) ? 1 : 0;
            default:
                return -1;
        }
    }

    public int alike(int node, int other) {
        if (!page.has(node) || !page.has(other)) {
            return -1;
        }
        return page.isAlike(node, other) ? 1 : 0;
    }

    public int times(int node, int other) {
        if (!page.has(node) || !page.has(other)) {
            return -1;
        }
        return page.timesWithin(node, other);
    }

    public int keeps(int style, int kind, boolean is) {
        if (!isStyle(style) || kind < 0 || kind > CALL || !Kinds.hasBit(KEEPABLE, kind)) {
            return -1;
        }
        int before = styles[style];
        styles[style] = Kinds.withBit(before, kind, is);
        return styles[style] == before ? 0 : 1;
    }

    // ---- saying

    public int words(int style, int node) {
        if (!isStyle(style) || !page.has(node)) {
            return -1;
        }
        speech.sayInStyle(page, node, styles[style], MOST_SIZE);
        return speech.isTooLong() ? -5 : speech.length;
    }

    public int word(int style, int node, int i) {
        if (!isStyle(style) || !page.has(node) || i < 0) {
            return -1;
        }
        speech.sayInStyle(page, node, styles[style], MOST_SIZE);
        if (i >= speech.length) {
            return -2;
        }
        return speech.isTooLong() ? -5 : speech.row[i];
    }

    public int sound(int style, int node, int other) {
        if (!isStyle(style) || !page.has(node) || !page.has(other)) {
            return -1;
        }
        speech.sayInStyle(page, node, styles[style], MOST_SIZE);
        otherSpeech.sayInStyle(page, other, styles[style], MOST_SIZE);
        if (speech.isTooLong() || otherSpeech.isTooLong()) {
            return -5;
        }
        return speech.isSameAs(otherSpeech) ? 1 : 0;
    }

    /**
     * Two unlike FORMULAS that sound the same have the same words but for their shape, and
     * the smallest such two are root (a plus a) and (root a) plus a, of four NODES, or the
     * same with another pair or with a CALL. KEEPING either of the two KINDS tells them apart.
     */
    public int clear(int style, int n) {
        if (!isStyle(style) || n < 1 || n > 4) {
            return -1;
        }
        if (n < 4) {
            return 1;
        }
        boolean barePair = false;
        boolean barePrefix = false;
        for (int kind = PLUS; kind <= CALL; kind++) {
            boolean bare = !Kinds.hasBit(styles[style], kind);
            barePair = barePair || bare && Kinds.isPair(kind);
            barePrefix = barePrefix || bare && Kinds.isPrefix(kind);
        }
        return barePair && barePrefix ? 0 : 1;
    }

    // ---- hearing

    public int hear(int n, int words) {
        if (n < 1 || n > 5) {
            return -1;
        }
        for (int digit = 0; digit < n; digit++) {
            if (digitOf(words, digit) > END) {
                return -1;
            }
        }
        if (hearing.length + n > MOST_HEARD) {
            return -2;
        }
        for (int digit = n - 1; digit >= 0; digit--) {
            hearing.add(digitOf(words, digit));
        }
        return hearing.length;
    }

    public int listen(int style, int node) {
        if (!isStyle(style) || !page.has(node)) {
            return -1;
        }
        speech.sayInStyle(page, node, styles[style], MOST_SIZE);
        if (speech.isTooLong()) {
            return -5;
        }
        return hearSpeech();
    }

    public int hush() {
        int before = hearing.length;
        hearing.length = 0;
        return before;
    }

    public int ear(int i) {
        return i < 0 || i >= hearing.length ? -1 : hearing.row[i];
    }

    public long readings(int style) throws IllegalArgumentException {
        if (!isStyleOrFree(style)) {
            throw new IllegalArgumentException("no such style");
        }
        return tallyIn(style);
    }

    public int write(int style, long k) {
        if (!isStyleOrFree(style) || k < 0) {
            return -1;
        }
        if (k >= tallyIn(style)) {
            return -4;
        }
        draft.used = 0;
        hearing.build(draft, k);
        if (page.used + draft.used > MOST_NODES) {
            return -2;
        }
        return hearing.build(page, k);
    }

    public long place(int style, int node) {
        if (!isStyleOrFree(style) || !page.has(node)) {
            return -1;
        }
        if (!page.isRight(node, functions)) {
            return -2;
        }
        tallyIn(style);
        long found = hearing.placeOf(page, node);
        return found < 0 ? -2 : found;
    }

    public int doubt(int style, long k, long other) {
        if (!isStyleOrFree(style) || k < 0 || other < 0) {
            return -1;
        }
        long found = tallyIn(style);
        if (k >= found || other >= found) {
            return -4;
        }
        if (k == other) {
            return -2;
        }
        draft.used = 0;
        int one = hearing.build(draft, k);
        int two = hearing.build(draft, other);
        return draft.firstUnlike(one, two);
    }

    public int fewest(int node) {
        if (!page.has(node)) {
            return -1;
        }
        if (!page.isRight(node, functions)) {
            return -3;
        }
        if (page.choices[node] > MOST_CHOICES) {
            return -5;
        }
        speech.saySparingly(page, node);
        return hearSpeech();
    }

    // ---- walking

    public int walk(int node) {
        if (!page.has(node)) {
            return -1;
        }
        route.beginAt(node);
        return 0;
    }

    public int go(int way) {
        if (way < 0 || way > 3) {
            return -1;
        }
        if (!route.isBegun()) {
            return -2;
        }
        boolean gone;
        switch (way) {
            case 2:
                gone = route.stepUp();
                break;
            case 3:
                gone = route.stepBeside(page);
                break;
            default:
                gone = route.stepDown(page, way + 1);
                break;
        }
        return gone ? route.here() : -3;
    }

    public int where(int what) throws IllegalStateException {
        if (what < 0 || what > 2) {
            return -1;
        }
        if (!route.isBegun()) {
            return -2;
        }
        if (what == 1) {
            return route.depth;
        }
        if (what == 2) {
            return route.here();
        }
        if (route.depth > DEEPEST_PATH) {
            throw new IllegalStateException("the walk is too deep for a path");
        }
        return route.asNumber();
    }

    public int lead(int path) {
        if (!route.isBegun()) {
            return -2;
        }
        return route.follow(page, path) ? route.here() : -1;
    }

    public int glance(int style, int n) {
        if (!isStyle(style) || n < 0 || n > 9) {
            return -1;
        }
        if (!route.isBegun()) {
            return -2;
        }
        speech.sayInStyle(page, route.here(), styles[style], n);
        return speech.isTooLong() ? -5 : speech.length;
    }

    // ---- two lines

    public int changed(int node, int other) {
        if (!page.has(node) || !page.has(other)) {
            return -1;
        }
        return page.differenceOf(node, other);
    }

    public int exchanged(int node, int other) {
        if (!page.has(node) || !page.has(other)) {
            return -1;
        }
        return page.exchangesOf(node, other);
    }

    public int count(int what) {
        switch (what) {
            case 0:
                return page.used;
            case 1:
                return hearing.length;
            case 2:
                return Integer.bitCount(functions);
            default:
                return -1;
        }
    }

    public int keep(int d, int what, int k) {
        if (!isShelf(d)) {
            return -1;
        }
        switch (what) {
            case HOLDS_NOTHING:
                shelves[d].drop();
                return 0;
            case HOLDS_BYTES:
                shelves[d].holdRow(HOLDS_BYTES, hearing.row, hearing.length);
                return 0;
            case HOLDS_NODE:
            case HOLDS_CHARS:
                return keepNode(shelves[d], what, k);
            default:
                return -1;
        }
    }

    public int make(int d, int what, int n) {
        if (!isShelf(d) || what != HOLDS_BYTES && what != HOLDS_CHARS || n > LONGEST_ROW) {
            return -1;
        }
        if (n < 0) {
            return -14;
        }
        shelves[d].holdNoughts(what, n);
        return 0;
    }

    public long element(int d, int i) throws IllegalArgumentException, IllegalStateException {
        if (!isShelf(d)) {
            throw new IllegalArgumentException("no such shelf");
        }
        Shelf shelf = shelves[d];
        if (!shelf.hasRow()) {
            throw new IllegalStateException("the shelf holds no row");
        }
        if (!shelf.hasSpan(i, 1)) {
            throw new IllegalStateException("the row has no such place");
        }
        return shelf.row[i];
    }

    public int copy(int d, int i, int e, int j, int n) {
        if (!isShelf(d) || !isShelf(e)) {
            return -1;
        }
        Shelf from = shelves[d];
        Shelf to = shelves[e];
        if (from.held == HOLDS_NOTHING || to.held == HOLDS_NOTHING) {
            return -11;
        }
        if (!from.hasRow() || from.held != to.held) {
            return -12;
        }
        if (!from.hasSpan(i, n) || !to.hasSpan(j, n)) {
            return -13;
        }
        System.arraycopy(from.row, i, to.row, j, n);
        return n;
    }

    public int weight(int d) {
        int refusal = nodeRefusal(d);
        return refusal < 0 ? refusal : shelves[d].weighNode();
    }

    public int toss(int d) {
        int refusal = nodeRefusal(d);
        if (refusal < 0) {
            return refusal;
        }
        return shelves[d].value == NONE ? -15 : shelves[d].value;
    }

    // ---- what several calls share

    private static boolean isLetter(int letter) {
        return letter >= 0 && letter < LETTERS;
    }

    private static boolean isStyle(int style) {
        return style >= 0 && style < STYLES;
    }

    private static boolean isStyleOrFree(int style) {
        return isStyle(style) || style == FREE;
    }

    private static boolean isShelf(int d) {
        return d >= 0 && d < SHELVES;
    }

    private static int orMissing(int found) {
        return found == NONE ? -2 : found;
    }

    private static int digitOf(int words, int digit) {
        return words >> 5 * digit & 31;
    }

    /** THE EAR gets what has been said just now, if it has room for it. */
    private int hearSpeech() {
        if (speech.length > MOST_HEARD) {
            return -2;
        }
        hearing.length = 0;
        for (int i = 0; i < speech.length; i++) {
            hearing.add(speech.row[i]);
        }
        return hearing.length;
    }

    private long tallyIn(int style) {
        int kept = style == FREE ? KEEPABLE : styles[style];
        int bare = style == FREE ? ALL_KINDS : ALL_KINDS & ~kept;
        return Math.min(hearing.tally(bare, kept, functions), MOST_READINGS);
    }

    private int keepNode(Shelf shelf, int what, int k) {
        if (!page.has(k)) {
            return -1;
        }
        if (what == HOLDS_NODE) {
            shelf.holdNode(page.kinds[k], page.values[k], page.sizes[k]);
        } else {
            shelf.holdNoughts(HOLDS_CHARS, page.sizes[k]);
            page.layKinds(k, shelf.row);
        }
        return 0;
    }

    private int nodeRefusal(int d) {
        if (!isShelf(d)) {
            return -1;
        }
        if (shelves[d].held == HOLDS_NOTHING) {
            return -11;
        }
        return shelves[d].held == HOLDS_NODE ? 0 : -12;
    }

    /** What a KIND tells of a NODE, and sets of KINDS or letters as bits. */
    static final class Kinds {
        static boolean isPair(int kind) {
            return kind >= PLUS && kind <= INDEX;
        }

        /** Whether it is said with words ahead of its only PART and none behind it. */
        static boolean isPrefix(int kind) {
            return kind == ROOT || kind == CALL;
        }

        static boolean hasBit(int bits, int i) {
            return (bits >> i & 1) != 0;
        }

        static int withBit(int bits, int i, boolean is) {
            return is ? bits | 1 << i : bits & ~(1 << i);
        }

        /**
         * Whether a PART that is not KEPT lets the words be heard in another way, too. With
         * a pair inside a pair or behind a prefix, or a prefix at the front of a pair, the
         * two can change places, whatever else is KEPT. All other PARTS are found again in
         * one way only, so what FREE needs is just that all these are KEPT.
         */
        static boolean isDoubtful(int kind, int partKind, boolean first) {
            if (isPair(partKind)) {
                return isPair(kind) || isPrefix(kind);
            }
            return first && isPrefix(partKind) && isPair(kind);
        }
    }

    /** NODES that came one by one, each behind its PARTS, with what is often asked of them. */
    static final class Page {
        final int[] kinds = new int[MOST_NODES];
        final int[] values = new int[MOST_NODES];
        final int[] xs = new int[MOST_NODES];
        final int[] ys = new int[MOST_NODES];
        final int[] sizes = new int[MOST_NODES];
        final int[] depths = new int[MOST_NODES];
        /** How many words the tree is SAID with, begin and end left out. */
        final int[] bareWords = new int[MOST_NODES];
        /** How many NODES of the tree could be KEPT. */
        final int[] choices = new int[MOST_NODES];
        /** The letters that stand in the tree as LETTERS, and those of its CALLS, as bits. */
        final int[] letters = new int[MOST_NODES];
        final int[] calls = new int[MOST_NODES];
        /** The first NODE that is alike as a tree. */
        final int[] shapes = new int[MOST_NODES];
        private final int[] tallies = new int[MOST_NODES];
        int used = 0;

        boolean has(int node) {
            return node >= 0 && node < used;
        }

        boolean isFull() {
            return used >= MOST_NODES;
        }

        int sizeOf(int part) {
            return has(part) ? sizes[part] : 0;
        }

        /** The PART that a PATH's digit tells (1 x, 2 y), or NONE. */
        int partOf(int node, int digit) {
            if (!has(node) || digit < 1 || digit > 2) {
                return NONE;
            }
            return digit == 1 ? xs[node] : ys[node];
        }

        /** A new NODE's number, or NONE if there is no room. */
        int put(int kind, int v, int x, int y) {
            if (isFull()) {
                return NONE;
            }
            int n = used;
            kinds[n] = kind;
            values[n] = v;
            xs[n] = x;
            ys[n] = y;
            sizes[n] = 1;
            depths[n] = 1;
            bareWords[n] = ownWords(kind, v);
            choices[n] = Kinds.hasBit(KEEPABLE, kind) ? 1 : 0;
            letters[n] = kind == LETTER ? 1 << v : 0;
            calls[n] = kind == CALL ? 1 << v : 0;
            addPart(n, x);
            addPart(n, y);
            shapes[n] = firstAlike(n);
            used++;
            return n;
        }

        private void addPart(int n, int part) {
            if (!has(part)) {
                return;
            }
            sizes[n] += sizes[part];
            depths[n] = Math.max(depths[n], 1 + depths[part]);
            bareWords[n] += bareWords[part];
            choices[n] += choices[part];
            letters[n] |= letters[part];
            calls[n] |= calls[part];
        }

        private static int ownWords(int kind, int v) {
            if (kind == NUMBER) {
                return v < 10 ? 1 : v < 100 ? 2 : v < 1000 ? 3 : 4;
            }
            return kind == FENCED || kind == CALL ? 2 : 1;
        }

        private int firstAlike(int n) {
            for (int m = 0; m < n; m++) {
                if (isSameTop(m, n) && shapeOf(xs[m]) == shapeOf(xs[n])
                        && shapeOf(ys[m]) == shapeOf(ys[n])) {
                    return shapes[m];
                }
            }
            return n;
        }

        private int shapeOf(int part) {
            return part < 0 || part >= used ? NONE : shapes[part];
        }

        boolean isSameTop(int node, int other) {
            return kinds[node] == kinds[other] && values[node] == values[other];
        }

        boolean isAlike(int node, int other) {
            return shapes[node] == shapes[other];
        }

        boolean isRight(int node, int functions) {
            return (letters[node] & functions) == 0 && (calls[node] & ~functions) == 0;
        }

        int timesWithin(int node, int other) {
            for (int m = 0; m <= node; m++) {
                tallies[m] = (isAlike(m, other) ? 1 : 0) + tallyOf(xs[m]) + tallyOf(ys[m]);
            }
            return tallies[node];
        }

        private int tallyOf(int part) {
            return has(part) ? tallies[part] : 0;
        }

        /** The PATH, as a number, at which two unlike trees are first unlike at their top. */
        int firstUnlike(int node, int other) {
            int one = node;
            int two = other;
            int told = 0;
            int digitWorth = 1;
            for (int depth = 0; depth < DEEPEST_PATH; depth++) {
                if (!has(one) || !has(two) || !isSameTop(one, two)) {
                    return told;
                }
                int digit = shapeOf(xs[one]) != shapeOf(xs[two]) ? 1 : 2;
                one = partOf(one, digit);
                two = partOf(two, digit);
                told += digit * digitWorth;
                digitWorth *= 3;
            }
            return told;
        }

        int differenceOf(int node, int other) {
            return difference(node, other, MOST_SIZE);
        }

        int exchangesOf(int node, int other) {
            return exchanges(node, other, MOST_SIZE);
        }

        /** Lays the KINDS of a tree in a row, a NODE ahead of its PARTS. */
        void layKinds(int node, int[] row) {
            layKindsFrom(node, row, 0, MOST_SIZE);
        }

        /**
         * To go down is never more than to exchange all: each PART costs at most both its
         * SIZES, and another v costs 1, where both tops would cost 2.
         */
        private int difference(int node, int other, int deepest) {
            if (!has(node) || !has(other) || deepest <= 0) {
                return 0;
            }
            if (kinds[node] != kinds[other]) {
                return sizes[node] + sizes[other];
            }
            return (values[node] == values[other] ? 0 : 1)
                    + difference(xs[node], xs[other], deepest - 1)
                    + difference(ys[node], ys[other], deepest - 1);
        }

        private int exchanges(int node, int other, int deepest) {
            if (!has(node) || !has(other) || deepest <= 0) {
                return 0;
            }
            if (kinds[node] != kinds[other]) {
                return 1;
            }
            return exchanges(xs[node], xs[other], deepest - 1)
                    + exchanges(ys[node], ys[other], deepest - 1);
        }

        /** The place in the row behind the KINDS that were laid. */
        private int layKindsFrom(int node, int[] row, int from, int deepest) {
            if (!has(node) || from >= row.length || deepest <= 0) {
                return from;
            }
            row[from] = kinds[node];
            int behind = layKindsFrom(xs[node], row, from + 1, deepest - 1);
            return layKindsFrom(ys[node], row, behind, deepest - 1);
        }
    }

    /** The words that a NODE is SAID with. */
    static final class Speech {
        final int[] row = new int[MOST_SAID];
        /** All words are counted, those too that the row has no room for. */
        int length = 0;
        private int keptKinds = 0;
        private boolean sparing = false;

        boolean isTooLong() {
            return length > MOST_SAID;
        }

        /** Says a NODE with what is at most so many steps below it. */
        void sayInStyle(Page page, int node, int kept, int below) {
            length = 0;
            keptKinds = kept;
            sparing = false;
            tell(page, node, Kinds.hasBit(kept, page.kinds[node]), below);
        }

        /** Says a NODE with only those PARTS KEPT that would leave a doubt. */
        void saySparingly(Page page, int node) {
            length = 0;
            sparing = true;
            tell(page, node, false, MOST_SIZE);
        }

        boolean isSameAs(Speech other) {
            if (length != other.length || isTooLong()) {
                return false;
            }
            for (int i = 0; i < length; i++) {
                if (row[i] != other.row[i]) {
                    return false;
                }
            }
            return true;
        }

        private void tell(Page page, int node, boolean kept, int below) {
            if (!page.has(node)) {
                return;
            }
            if (below < 0) {
                // Any word will do: it only stands for what is too deep.
                add(0);
                return;
            }
            if (kept) {
                add(BEGIN);
            }
            tellBare(page, node, below);
            if (kept) {
                add(END);
            }
        }

        private void tellBare(Page page, int node, int below) {
            int kind = page.kinds[node];
            int x = page.xs[node];
            int y = page.ys[node];
            boolean keptX = isPartKept(page, kind, x, true);
            switch (kind) {
                case LETTER:
                    add(page.values[node]);
                    break;
                case NUMBER:
                    addDigits(page.values[node]);
                    break;
                case ROOT:
                    add(ROOT_WORD);
                    tell(page, x, keptX, below - 1);
                    break;
                case FENCED:
                    add(OPEN);
                    tell(page, x, keptX, below - 1);
                    add(CLOSE);
                    break;
                case CALL:
                    add(page.values[node]);
                    add(OF);
                    tell(page, x, keptX, below - 1);
                    break;
                default:
                    tell(page, x, keptX, below - 1);
                    add(PAIR_WORDS + kind);
                    tell(page, y, isPartKept(page, kind, y, false), below - 1);
                    break;
            }
        }

        private boolean isPartKept(Page page, int kind, int part, boolean first) {
            if (!page.has(part)) {
                return false;
            }
            int partKind = page.kinds[part];
            return sparing ? Kinds.isDoubtful(kind, partKind, first) : Kinds.hasBit(keptKinds, partKind);
        }

        private void addDigits(int number) {
            int worth = number >= 1000 ? 1000 : number >= 100 ? 100 : number >= 10 ? 10 : 1;
            for (int digit = 0; digit < LONGEST_NUMBER && worth > 0; digit++) {
                add(DIGITS + number / worth % 10);
                worth /= 10;
            }
        }

        private void add(int word) {
            if (length < MOST_SAID) {
                row[length] = word;
            }
            length++;
        }
    }

    /** THE EAR, and in how many ways each span of its words can be heard. */
    static final class Hearing {
        final int[] row = new int[MOST_HEARD];
        int length = 0;
        /** For the words from i up to, not with, j: how many READINGS. Of no words: 0. */
        private final long[][] ways = new long[MOST_HEARD + 1][MOST_HEARD + 1];
        /** The KINDS that may be SAID without begin and end, and with them, as bits. */
        private int bareKinds = 0;
        private int keptKinds = 0;
        private int functions = 0;

        void add(int word) {
            if (length < MOST_HEARD) {
                row[length] = word;
                length++;
            }
        }

        /**
         * Counts the READINGS, for build and placeOf to find their way by. Twenty words
         * have far fewer than 10^15 trees of all shapes, so no sum or product here is too big.
         */
        long tally(int bare, int kept, int functionLetters) {
            bareKinds = bare;
            keptKinds = kept;
            functions = functionLetters;
            for (int words = 1; words <= length; words++) {
                for (int i = 0; i + words <= length; i++) {
                    ways[i][i + words] = waysOf(i, i + words, ALL_KINDS);
                }
            }
            return length == 0 ? 0 : ways[0][length];
        }

        /** The READINGS of a span whose topmost NODE is of one of some KINDS. */
        private long waysOf(int i, int j, int kinds) {
            long bare = bareWays(i, j, kinds & bareKinds);
            return isBracketed(i, j) ? bare + bareWays(i + 1, j - 1, kinds & keptKinds) : bare;
        }

        private boolean isBracketed(int i, int j) {
            return j - i > 2 && row[i] == BEGIN && row[j - 1] == END;
        }

        /** The same, the topmost NODE without begin and end of its own. */
        private long bareWays(int i, int j, int kinds) {
            if (i >= j || kinds == 0) {
                return 0;
            }
            long sum = 0;
            for (int m = i + 1; m < j - 1; m++) {
                int kind = row[m] - PAIR_WORDS;
                if (Kinds.isPair(kind) && Kinds.hasBit(kinds, kind)) {
                    sum += ways[i][m] * ways[m + 1][j];
                }
            }
            int only = kindByEnds(i, j);
            if (only == NONE || !Kinds.hasBit(kinds, only)) {
                return sum;
            }
            return only <= NUMBER ? sum + 1 : sum + ways[partFrom(only, i)][partTo(only, j)];
        }

        /** The KIND other than a pair that a span's first words and its last one allow, or NONE. */
        private int kindByEnds(int i, int j) {
            int first = row[i];
            if (first < LETTERS) {
                boolean function = Kinds.hasBit(functions, first);
                if (function) {
                    return j - i > 2 && row[i + 1] == OF ? CALL : NONE;
                }
                return j - i == 1 ? LETTER : NONE;
            }
            if (first == ROOT_WORD) {
                return j - i > 1 ? ROOT : NONE;
            }
            if (first == OPEN) {
                return j - i > 2 && row[j - 1] == CLOSE ? FENCED : NONE;
            }
            return numberIn(i, j) == NONE ? NONE : NUMBER;
        }

        private static int partFrom(int kind, int i) {
            return kind == CALL ? i + 2 : i + 1;
        }

        private static int partTo(int kind, int j) {
            return kind == FENCED ? j - 1 : j;
        }

        /** The NUMBER that a span says, or NONE. */
        private int numberIn(int i, int j) {
            if (j - i > LONGEST_NUMBER || j - i > 1 && row[i] == DIGITS) {
                return NONE;
            }
            int number = 0;
            for (int m = i; m < j; m++) {
                int digit = row[m] - DIGITS;
                if (digit < 0 || digit > 9) {
                    return NONE;
                }
                number = number * 10 + digit;
            }
            return number;
        }

        /** Puts READING k of all words on a page: the topmost NODE, or NONE. */
        int build(Page to, long k) {
            return buildSpan(to, 0, length, k);
        }

        private int buildSpan(Page to, int i, int j, long k) {
            if (i >= j) {
                return NONE;
            }
            long left = k;
            boolean bracketed = isBracketed(i, j);
            for (int kind = LETTER; kind <= CALL; kind++) {
                long bare = bareWays(i, j, bareKinds & 1 << kind);
                if (left < bare) {
                    return buildBare(to, kind, i, j, left);
                }
                left -= bare;
                long kept = bracketed ? bareWays(i + 1, j - 1, keptKinds & 1 << kind) : 0;
                if (left < kept) {
                    return buildBare(to, kind, i + 1, j - 1, left);
                }
                left -= kept;
            }
            return NONE;
        }

        private int buildBare(Page to, int kind, int i, int j, long k) {
            if (Kinds.isPair(kind)) {
                return buildPair(to, kind, i, j, k);
            }
            if (kind == LETTER) {
                return to.put(LETTER, row[i], NONE, NONE);
            }
            if (kind == NUMBER) {
                return to.put(NUMBER, numberIn(i, j), NONE, NONE);
            }
            int x = buildSpan(to, partFrom(kind, i), partTo(kind, j), k);
            return to.put(kind, kind == CALL ? row[i] : NONE, x, NONE);
        }

        private int buildPair(Page to, int kind, int i, int j, long k) {
            long left = k;
            for (int m = i + 1; m < j - 1; m++) {
                if (row[m] != PAIR_WORDS + kind) {
                    continue;
                }
                long waysOfY = ways[m + 1][j];
                long both = ways[i][m] * waysOfY;
                if (left < both && waysOfY > 0) {
                    int x = buildSpan(to, i, m, left / waysOfY);
                    int y = buildSpan(to, m + 1, j, left % waysOfY);
                    return to.put(kind, NONE, x, y);
                }
                left -= both;
            }
            return NONE;
        }

        /** The place of a RIGHT tree among the READINGS of all words, or NONE. */
        long placeOf(Page page, int node) {
            return placeIn(page, node, 0, length);
        }

        private long placeIn(Page page, int node, int i, int j) {
            if (i >= j || !page.has(node)) {
                return NONE;
            }
            int bit = 1 << page.kinds[node];
            long ahead = waysOf(i, j, bit - 1);
            if ((bareKinds & bit) != 0) {
                long bare = placeBare(page, node, i, j);
                if (bare >= 0) {
                    return ahead + bare;
                }
                ahead += bareWays(i, j, bit);
            }
            if ((keptKinds & bit) == 0 || !isBracketed(i, j)) {
                return NONE;
            }
            long kept = placeBare(page, node, i + 1, j - 1);
            return kept < 0 ? NONE : ahead + kept;
        }

        private long placeBare(Page page, int node, int i, int j) {
            int kind = page.kinds[node];
            if (Kinds.isPair(kind)) {
                return placePair(page, node, i, j);
            }
            if (kindByEnds(i, j) != kind) {
                return NONE;
            }
            if (kind == NUMBER) {
                return numberIn(i, j) == page.values[node] ? 0 : NONE;
            }
            if ((kind == LETTER || kind == CALL) && row[i] != page.values[node]) {
                return NONE;
            }
            return kind == LETTER ? 0 : placeIn(page, page.xs[node], partFrom(kind, i), partTo(kind, j));
        }

        private long placePair(Page page, int node, int i, int j) {
            int word = PAIR_WORDS + page.kinds[node];
            int x = page.xs[node];
            if (!page.has(x)) {
                return NONE;
            }
            long ahead = 0;
            // Begin and end left aside, x has always as many words: that tells which word parts x and y.
            int passed = 0;
            for (int m = i; m < j - 1; m++) {
                if (row[m] == word && passed == page.bareWords[x]) {
                    long placeOfX = placeIn(page, x, i, m);
                    long placeOfY = placeOfX < 0 ? NONE : placeIn(page, page.ys[node], m + 1, j);
                    return placeOfY < 0 ? NONE : ahead + placeOfX * ways[m + 1][j] + placeOfY;
                }
                if (row[m] == word) {
                    ahead += ways[i][m] * ways[m + 1][j];
                }
                passed += row[m] == BEGIN || row[m] == END ? 0 : 1;
            }
            return NONE;
        }
    }

    /** A walk from a top down: the NODES that were gone through, and by which steps. */
    static final class Walk {
        private final int[] nodes = new int[MOST_SIZE];
        /** For each NODE but the top: 1 if it is the x of the one ahead, 2 if the y. */
        private final int[] digits = new int[MOST_SIZE];
        private boolean begun = false;
        int depth = 0;

        boolean isBegun() {
            return begun;
        }

        int top() {
            return nodes[0];
        }

        int here() {
            return nodes[depth];
        }

        void beginAt(int node) {
            begun = true;
            nodes[0] = node;
            depth = 0;
        }

        boolean stepDown(Page page, int digit) {
            int part = page.partOf(here(), digit);
            if (part == NONE || depth + 1 >= MOST_SIZE) {
                return false;
            }
            depth++;
            nodes[depth] = part;
            digits[depth] = digit;
            return true;
        }

        boolean stepUp() {
            if (depth == 0) {
                return false;
            }
            depth--;
            return true;
        }

        boolean stepBeside(Page page) {
            if (depth == 0) {
                return false;
            }
            int digit = 3 - digits[depth];
            int part = page.partOf(nodes[depth - 1], digit);
            if (part == NONE) {
                return false;
            }
            nodes[depth] = part;
            digits[depth] = digit;
            return true;
        }

        int asNumber() {
            int told = 0;
            for (int d = Math.min(depth, DEEPEST_PATH); d > 0; d--) {
                told = told * 3 + digits[d];
            }
            return told;
        }

        /** Goes from the top along a PATH, or, if it leads nowhere, stays. */
        boolean follow(Page page, int told) {
            if (!leadsSomewhere(page, told)) {
                return false;
            }
            depth = 0;
            int rest = told;
            for (int d = 0; d <= DEEPEST_PATH && rest > 0; d++) {
                stepDown(page, rest % 3);
                rest /= 3;
            }
            return true;
        }

        private boolean leadsSomewhere(Page page, int told) {
            int node = nodes[0];
            int rest = told;
            // An int has room for some PATHS that are one step deeper than where() tells.
            for (int d = 0; d <= DEEPEST_PATH && rest > 0; d++) {
                node = page.partOf(node, rest % 3);
                rest /= 3;
            }
            return told >= 0 && node != NONE;
        }
    }

    /** Holds nothing, what a NODE was when it came here, or a ROW. */
    static final class Shelf {
        int held = HOLDS_NOTHING;
        int value = NONE;
        private int kind = LETTER;
        private int size = 0;
        /** One array for all ROWS that ever come here: only its first elements are the ROW. */
        final int[] row = new int[LONGEST_ROW];
        private int length = 0;

        void drop() {
            held = HOLDS_NOTHING;
        }

        void holdNode(int nodeKind, int v, int nodeSize) {
            held = HOLDS_NODE;
            kind = nodeKind;
            value = v;
            size = nodeSize;
        }

        void holdNoughts(int what, int n) {
            held = what;
            length = n;
            for (int i = 0; i < LONGEST_ROW; i++) {
                row[i] = 0;
            }
        }

        void holdRow(int what, int[] from, int n) {
            held = what;
            length = n;
            for (int i = 0; i < n && i < LONGEST_ROW && i < from.length; i++) {
                row[i] = from[i];
            }
        }

        boolean hasRow() {
            return held == HOLDS_BYTES || held == HOLDS_CHARS;
        }

        boolean hasSpan(int from, int n) {
            return from >= 0 && n >= 0 && from <= length - n;
        }

        int weighNode() {
            int plain = size + 10;
            switch (kind) {
                case NUMBER:
                    return plain + value;
                case POWER:
                case INDEX:
                    return plain + 100;
                case FENCED:
                    return plain * 2;
                case CALL:
                    return plain + 1000;
                default:
                    return plain;
            }
        }
    }
}
