/** Promise 14: row. */
public final class P14RowTest {
    public static void main(String[] args) {
        Due due = new Due("P14RowTest");
        valueI(due);
        noneSuch(due);
        noneSuchAfterTaking(due);
        nothingIsChanged(due);
        theClassItself(due);
        due.end();
    }

    private static void valueI(Due due) {
        due.sentence("Value i of THE ROW, from 0 on");
        Desk x = new Desk();
        long[] values = {0, -1, Long.MIN_VALUE, Long.MAX_VALUE, 1L << 32, LibraryDesk.REFUSED, 0, -1};
        for (long value : values) {
            x.collect(value);
        }
        due.row(x, values);
    }

    private static void noneSuch(Due due) {
        due.sentence("ArrayIndexOutOfBoundsException if there is none such");
        for (int have = 0; have <= 20; have++) {
            Desk x = new Desk();
            x.collect(1000, have);
            for (int i = 0; i < have; i++) {
                due.rowValue(x, i, 1000 + i);
            }
            for (int i = have; i <= 20; i++) {
                due.noRowValue(x, i);
            }
            for (int i : Outside.VALUES) {
                due.noRowValue(x, i);
            }
        }
    }

    private static void noneSuchAfterTaking(Due due) {
        due.sentence("ArrayIndexOutOfBoundsException if there is none such: one that was taken out");
        Desk x = new Desk();
        x.act(0, 3, 0);
        x.collect(1000, 20);
        for (int taken = 1; taken <= 20; taken++) {
            x.call(0, 0, 0);
            for (int i = 0; i < 20 - taken; i++) {
                due.rowValue(x, i, 1000 + taken + i);
            }
            due.noRowValue(x, 20 - taken);
            due.noRowValue(x, 19);
        }
    }

    private static void nothingIsChanged(Due due) {
        due.sentence("ArrayIndexOutOfBoundsException ..: a call that throws leaves all as it was");
        Desk x = new Desk();
        x.collect(4);
        due.noRowValue(x, 1);
        due.noRowValue(x, -1);
        due.is("collect(5)", x.collect(5), 2);
        due.row(x, 4, 5);
    }

    /** Not a class above or below it, and by a throw statement: the machine's own would tell index and length. */
    private static void theClassItself(Due due) {
        due.sentence("row(int i) throws ArrayIndexOutOfBoundsException");
        int[] wrong = {-1, 0, 20, Integer.MIN_VALUE, Integer.MAX_VALUE};
        for (int i : wrong) {
            boolean exact = false;
            boolean thrownByTheMachine = false;
            try {
                new LibraryDesk().row(i);
            } catch (RuntimeException e) {
                exact = e.getClass() == ArrayIndexOutOfBoundsException.class;
                thrownByTheMachine = String.valueOf(e.getMessage()).contains("out of bounds for length");
            }
            due.is("row(" + i + ") throws just that", exact, true);
            due.is("row(" + i + ") lets the machine throw", thrownByTheMachine, false);
        }
    }
}
