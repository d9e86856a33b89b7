/** Notes every answer that is not the one that is due. */
final class Check {
    private final String name;
    private int wrong = 0;
    private int made = 0;

    Check(String name) {
        this.name = name;
    }

    void due(String call, long got, long want) {
        made++;
        if (got != want) {
            wrong++;
            if (wrong <= 50) {
                System.out.println(name + ": " + call + " answered " + got + ", due is " + want);
            }
        }
    }

    void end() {
        System.out.println(wrong == 0 ? made + " answers are as due" : wrong + " answers are not as due");
        if (wrong != 0) {
            System.exit(1);
        }
    }

    /** Told instead of an answer, if a call throws. */
    static final long ILLEGAL_ARGUMENT = Long.MIN_VALUE + 1;
    static final long ILLEGAL_STATE = Long.MIN_VALUE + 2;

    static long readings(FormulaVoice f, int style) {
        try {
            return f.readings(style);
        } catch (IllegalArgumentException e) {
            return ILLEGAL_ARGUMENT;
        }
    }

    static long where(FormulaVoice f, int what) {
        try {
            return f.where(what);
        } catch (IllegalStateException e) {
            return ILLEGAL_STATE;
        }
    }

    static long element(FormulaVoice f, int d, int i) {
        try {
            return f.element(d, i);
        } catch (IllegalArgumentException e) {
            return ILLEGAL_ARGUMENT;
        } catch (IllegalStateException e) {
            return ILLEGAL_STATE;
        }
    }

    /** Words come to the ear of f, one by one, as many as there are. */
    static void tell(FormulaVoice f, int... words) {
        for (int w : words) {
            if (f.hear(1, w) < 0) {
                throw new IllegalStateException("the ear refuses " + w);
            }
        }
    }
}
