import java.util.function.ToLongFunction;

/**
 * Every call that the document refuses, or that can't be, in each situation: what it answers, and that all
 * later calls answer as those of a second desk on which it was never made.
 */
public final class RefusedTest {
    private static final long THROWN = Long.MIN_VALUE;

    private final Due due = new Due("RefusedTest");

    public static void main(String[] args) {
        RefusedTest test = new RefusedTest();
        for (Situation situation : Situation.values()) {
            test.noSuchCall(situation);
            test.noSuchKind(situation);
            test.noSuchNumber(situation);
            test.noSuchSortActOrWith(situation);
            test.noSuchWhatOrValue(situation);
        }
        test.refusedWhenBusy();
        test.refusedWhenFull();
        test.due.end();
    }

    private static long number(boolean answer) {
        return answer ? 1 : 0;
    }

    private static long rowAnswer(Desk x, int i) {
        Long value = x.row(i);
        return value == null ? THROWN : value;
    }

    /** A call that leaves all as it was, what is told too. */
    private void refused(Situation situation, String call, long want, ToLongFunction<Desk> made) {
        check(situation, call, want, made, 0);
    }

    /** One by call() itself, which is counted as REFUSED. */
    private void refusedCall(Situation situation, int call, int number) {
        check(situation, "call(" + call + ", " + number + ", 5)", LibraryDesk.REFUSED,
                x -> x.call(call, number, 5), 1);
        refused(situation, "again(" + call + ", " + number + ", 5)", LibraryDesk.REFUSED,
                x -> x.again(call, number, 5));
    }

    private void check(Situation situation, String call, long want, ToLongFunction<Desk> made, int counted) {
        due.sentence(situation + ", " + call);
        Desk x = situation.desk();
        Desk second = situation.desk();
        due.is("it", made.applyAsLong(x), want);
        for (int what = 0; what <= 6; what++) {
            due.is("told(" + what + ") then", x.told(what), second.told(what) + (what == 1 ? counted : 0));
        }
        due.is("it, made twice", made.applyAsLong(x), want);
        due.same("then", Probe.answers(x), Probe.answers(second));
    }

    private void noSuchCall(Situation situation) {
        for (int call : Outside.CALLS) {
            refusedCall(situation, call, 1);
            refused(situation, "wants(" + call + ", 1)", -2, x -> x.wants(call, 1));
            refused(situation, "wants(" + call + ", -1)", -2, x -> x.wants(call, -1));
            refused(situation, "act(" + call + ", 2, 1)", -1, x -> x.act(call, 2, 1));
            refused(situation, "fails(" + call + ", 0, 1)", 0, x -> x.fails(call, 0, 1));
        }
    }

    private void noSuchKind(Situation situation) {
        for (int kind : Outside.WANTS) {
            refused(situation, "wants(0, " + kind + ")", -2, x -> x.wants(0, kind));
            refused(situation, "wants(1, " + kind + ")", -2, x -> x.wants(1, kind));
        }
        for (int kind : Outside.KINDS) {
            refused(situation, "act(0, 6, " + kind + ")", -1, x -> x.act(0, 6, kind));
            refused(situation, "act(4, 0, " + kind + ")", -1, x -> x.act(4, 0, kind));
            refused(situation, "make(" + kind + ")", -1, x -> x.make(kind));
            refused(situation, "drop(" + kind + ", 1)", 0, x -> number(x.drop(kind, 1)));
            refused(situation, "numbers(" + kind + ")", -1, x -> x.numbers(kind));
            refused(situation, "here(" + kind + ", 1)", 0, x -> number(x.here(kind, 1)));
            refused(situation, "tally(" + kind + ")", 0, x -> x.tally(kind));
        }
    }

    private void noSuchNumber(Situation situation) {
        for (int number : Outside.NUMBERS) {
            refused(situation, "drop(0, " + number + ")", 0, x -> number(x.drop(0, number)));
            refused(situation, "drop(5, " + number + ")", 0, x -> number(x.drop(5, number)));
            refused(situation, "here(5, " + number + ")", 0, x -> number(x.here(5, number)));
        }
    }

    private void noSuchSortActOrWith(Situation situation) {
        for (int sort : Outside.SORTS) {
            refused(situation, "act(0, " + sort + ", 0)", -1, x -> x.act(0, sort, 0));
            refused(situation, "act(4, " + sort + ", 0)", -1, x -> x.act(4, sort, 0));
        }
        for (int i : Outside.ACTS) {
            refused(situation, "fails(1, " + i + ", 1)", 0, x -> x.fails(1, i, 1));
            refused(situation, "fails(4, " + i + ", 1)", 0, x -> x.fails(4, i, 1));
        }
        for (int with : Outside.WITHS) {
            refused(situation, "fails(1, 0, " + with + ")", 0, x -> x.fails(1, 0, with));
            refused(situation, "fails(4, 5, " + with + ")", 0, x -> x.fails(4, 5, with));
        }
    }

    private void noSuchWhatOrValue(Situation situation) {
        for (int what : Outside.WHATS) {
            refused(situation, "told(" + what + ")", -1, x -> x.told(what));
        }
        for (int i : Outside.VALUES) {
            refused(situation, "row(" + i + ")", THROWN, x -> rowAnswer(x, i));
        }
    }

    private void refusedWhenBusy() {
        int[] notHere = {2, 4, 0, 41, -1, Integer.MIN_VALUE, Integer.MAX_VALUE};
        for (int number : notHere) {
            refusedCall(Situation.BUSY, 0, number);
            refused(Situation.BUSY, "drop(0, " + number + ")", 0, x -> number(x.drop(0, number)));
        }
        refusedCall(Situation.BUSY, 3, 2);
        refusedCall(Situation.BUSY, 3, 3);
        refused(Situation.BUSY, "row(3)", THROWN, x -> rowAnswer(x, 3));
        refused(Situation.NEW, "row(0)", THROWN, x -> rowAnswer(x, 0));
        refused(Situation.NEW, "drop(0, 1)", 0, x -> number(x.drop(0, 1)));
    }

    private void refusedWhenFull() {
        refused(Situation.FULL, "collect(6)", -1, x -> x.collect(6));
        refused(Situation.FULL, "make(5)", -1, x -> x.make(5));
        for (int sort = 0; sort <= 6; sort++) {
            int seventh = sort;
            refused(Situation.FULL, "act(4, " + sort + ", 0)", -1, x -> x.act(4, seventh, 0));
        }
        int[] dropped = {2, 39};
        for (int number : dropped) {
            refusedCall(Situation.FULL, 4, number);
            refused(Situation.FULL, "drop(5, " + number + ")", 0, x -> number(x.drop(5, number)));
        }
    }
}
