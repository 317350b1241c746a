/** The face over a library's numbers, tallies and row, and over the calls that work on them. */
public final class LibraryDesk {
    public static final int NONE = -1;
    public static final long REFUSED = -9223372036854775807L;
    public static final long FAILED = -9223372036854775806L;

    private static final int KINDS = 8;
    private static final int MOST_NUMBERS = 40;
    private static final int MOST_VALUES = 20;
    private static final int CALLS = 10;
    private static final int MOST_ACTS = 6;
    private static final int MOST_TOLD_WITH = 5;

    private static final int MAKE = 0;
    private static final int DROP_GREATEST = 1;
    private static final int GROW_BY_A = 2;
    private static final int GROW_BY_VALUE = 3;
    private static final int ANSWER_TALLY = 4;
    private static final int ANSWER_COUNT = 5;
    private static final int DROP_CALLED = 6;

    private static final int NO_FAILURE = 0;
    private static final int FULL = 6;
    private static final int NOT_HERE = 7;
    private static final int ROW_EMPTY = 8;

    private static final int NO_SUCH_WANT = -2;

    private final Plan[] plans;
    private Holdings now;
    // Acts are done on this copy, so that a call that fails leaves nothing and again() changes nothing.
    private Holdings trial;

    // How the latest trial ended; kept apart from THE ANSWER, which may be any long, FAILED too.
    private long trialAnswer;
    private int trialFailedWith;
    private int trialFailedAt;

    private int answeredCalls;
    private int refusedCalls;
    private int failedCalls;
    private int lastFailedWith;
    private int lastFailedAct;
    private int lastFailedCall;
    private int lastFailedNumber;

    public LibraryDesk() {
        plans = new Plan[CALLS];
        for (int i = 0; i < CALLS; i++) {
            plans[i] = new Plan();
        }
        now = new Holdings();
        trial = new Holdings();
    }

    public int collect(long v) {
        return now.addValue(v) ? now.valueCount : NONE;
    }

    public int wants(int call, int kind) {
        if (!isCall(call) || (kind != NONE && !isKind(kind))) {
            return NO_SUCH_WANT;
        }
        int before = plans[call].wanted;
        plans[call].wanted = kind;
        return before;
    }

    public int act(int call, int sort, int kind) {
        if (!isCall(call) || !isSort(sort) || !isKind(kind)) {
            return NONE;
        }
        return plans[call].addAct(sort, kind) ? plans[call].actCount : NONE;
    }

    public int fails(int call, int i, int with) {
        if (!isCall(call) || i < 0 || i >= MOST_ACTS || with < 1 || with > MOST_TOLD_WITH) {
            return 0;
        }
        plans[call].tellToFail(i, with);
        return 1;
    }

    public int make(int kind) {
        if (!isKind(kind) || !now.makeNumber(kind)) {
            return NONE;
        }
        return now.made[kind];
    }

    public boolean drop(int kind, int number) {
        return now.dropNumber(kind, number);
    }

    public long call(int call, int number, long a) {
        if (isRefused(call, number)) {
            refusedCalls++;
            return REFUSED;
        }
        tryActs(plans[call], number, a);
        if (trialFailedWith != NO_FAILURE) {
            noteFailure(call, number);
            return FAILED;
        }
        keepTrial();
        answeredCalls++;
        return trialAnswer;
    }

    public long again(int call, int number, long a) {
        if (isRefused(call, number)) {
            return REFUSED;
        }
        tryActs(plans[call], number, a);
        return trialFailedWith != NO_FAILURE ? FAILED : trialAnswer;
    }

    public int told(int what) {
        switch (what) {
            case 0:
                return answeredCalls;
            case 1:
                return refusedCalls;
            case 2:
                return failedCalls;
            case 3:
                return lastFailedWith;
            case 4:
                return lastFailedAct;
            case 5:
                return lastFailedCall;
            case 6:
                return lastFailedNumber;
            default:
                return NONE;
        }
    }

    public int numbers(int kind) {
        return isKind(kind) ? now.countHere(kind) : NONE;
    }

    public boolean here(int kind, int number) {
        return now.isHere(kind, number);
    }

    public long tally(int kind) {
        return isKind(kind) ? now.tallies[kind] : 0L;
    }

    public long row(int i) throws ArrayIndexOutOfBoundsException {
        if (i < 0 || i >= now.valueCount) {
            throw new ArrayIndexOutOfBoundsException("no such value in the row");
        }
        return now.values[i];
    }

    private static boolean isKind(int kind) {
        return kind >= 0 && kind < KINDS;
    }

    private static boolean isCall(int call) {
        return call >= 0 && call < CALLS;
    }

    private static boolean isSort(int sort) {
        return sort >= MAKE && sort <= DROP_CALLED;
    }

    private boolean isRefused(int call, int number) {
        if (!isCall(call)) {
            return true;
        }
        int wanted = plans[call].wanted;
        return wanted != NONE && !now.isHere(wanted, number);
    }

    private void tryActs(Plan plan, int number, long a) {
        trial.copyFrom(now);
        trialAnswer = a;
        trialFailedWith = NO_FAILURE;
        for (int i = 0; i < plan.actCount && trialFailedWith == NO_FAILURE; i++) {
            trialFailedAt = i;
            trialFailedWith = plan.isToldToFailAt(i) ? plan.toldWith : doAct(plan, i, number, a);
        }
    }

    /** Answers what the act fails with, or NO_FAILURE. */
    private int doAct(Plan plan, int i, int number, long a) {
        int kind = plan.kinds[i];
        switch (plan.sorts[i]) {
            case MAKE:
                return trial.makeNumber(kind) ? NO_FAILURE : FULL;
            case DROP_GREATEST:
                return trial.dropNumber(kind, trial.greatestHere(kind)) ? NO_FAILURE : NOT_HERE;
            case GROW_BY_A:
                trial.tallies[kind] += a;
                return NO_FAILURE;
            case GROW_BY_VALUE:
                return trial.moveFirstValueTo(kind) ? NO_FAILURE : ROW_EMPTY;
            case ANSWER_TALLY:
                trialAnswer = 31L * trialAnswer + trial.tallies[kind];
                return NO_FAILURE;
            case ANSWER_COUNT:
                trialAnswer = 31L * trialAnswer + trial.countHere(kind);
                return NO_FAILURE;
            default:
                // DROP_CALLED: a call that wants no kind has NONE there, of which no number is here.
                return trial.dropNumber(plan.wanted, number) ? NO_FAILURE : NOT_HERE;
        }
    }

    private void keepTrial() {
        Holdings old = now;
        now = trial;
        trial = old;
    }

    private void noteFailure(int call, int number) {
        // An act told to fail is never done, so a failure at that act is always the told one.
        if (plans[call].isToldToFailAt(trialFailedAt)) {
            plans[call].forgetTold();
        }
        failedCalls++;
        lastFailedWith = trialFailedWith;
        lastFailedAct = trialFailedAt;
        lastFailedCall = call;
        lastFailedNumber = number;
    }

    /** What one call wants, does and was told to fail at. */
    private static final class Plan {
        int wanted;
        int actCount;
        final int[] sorts;
        final int[] kinds;
        int toldAct;
        int toldWith;

        Plan() {
            wanted = NONE;
            sorts = new int[MOST_ACTS];
            kinds = new int[MOST_ACTS];
            toldAct = NONE;
        }

        boolean addAct(int sort, int kind) {
            if (actCount >= MOST_ACTS) {
                return false;
            }
            sorts[actCount] = sort;
            kinds[actCount] = kind;
            actCount++;
            return true;
        }

        void tellToFail(int i, int with) {
            toldAct = i;
            toldWith = with;
        }

        boolean isToldToFailAt(int i) {
            return toldAct == i;
        }

        void forgetTold() {
            toldAct = NONE;
        }
    }

    /** All that a call can change, and that is as before if it fails. */
    private static final class Holdings {
        final int[] made;
        // Bit n of a kind's long tells whether its number n is here; 40 numbers fit one long.
        final long[] hereBits;
        final long[] tallies;
        final long[] values;
        int valueCount;

        Holdings() {
            made = new int[KINDS];
            hereBits = new long[KINDS];
            tallies = new long[KINDS];
            values = new long[MOST_VALUES];
        }

        void copyFrom(Holdings other) {
            System.arraycopy(other.made, 0, made, 0, KINDS);
            System.arraycopy(other.hereBits, 0, hereBits, 0, KINDS);
            System.arraycopy(other.tallies, 0, tallies, 0, KINDS);
            System.arraycopy(other.values, 0, values, 0, MOST_VALUES);
            valueCount = other.valueCount;
        }

        boolean addValue(long v) {
            if (valueCount >= MOST_VALUES) {
                return false;
            }
            values[valueCount] = v;
            valueCount++;
            return true;
        }

        boolean moveFirstValueTo(int kind) {
            if (valueCount <= 0) {
                return false;
            }
            tallies[kind] += values[0];
            valueCount--;
            for (int i = 0; i < valueCount; i++) {
                values[i] = values[i + 1];
            }
            return true;
        }

        boolean makeNumber(int kind) {
            if (made[kind] >= MOST_NUMBERS) {
                return false;
            }
            made[kind]++;
            hereBits[kind] |= 1L << made[kind];
            return true;
        }

        boolean isHere(int kind, int number) {
            return isKind(kind) && number >= 1 && number <= MOST_NUMBERS
                    && (hereBits[kind] & (1L << number)) != 0L;
        }

        boolean dropNumber(int kind, int number) {
            if (!isHere(kind, number)) {
                return false;
            }
            hereBits[kind] &= ~(1L << number);
            return true;
        }

        int countHere(int kind) {
            return Long.bitCount(hereBits[kind]);
        }

        /** NONE if no number of the kind is here. */
        int greatestHere(int kind) {
            for (int number = made[kind]; number >= 1; number--) {
                if (isHere(kind, number)) {
                    return number;
                }
            }
            return NONE;
        }
    }
}
