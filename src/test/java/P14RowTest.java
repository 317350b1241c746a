/** Promise 14: row. */
public final class P14RowTest {
    public static void main(String[] args) {
        Due due = new Due("P14RowTest");
        LibraryDesk x = new LibraryDesk();
        int[] never = {-1, 20, 21, Integer.MIN_VALUE, Integer.MAX_VALUE};
        for (int have = 0; have <= 20; have++) {
            for (int i = 0; i < 20; i++) {
                due.is("row(" + i + ") of " + have + " throws", Due.rowThrows(x, i), i >= have);
            }
            for (int i : never) {
                due.noRowValue(x, i);
            }
            x.collect(1000L + have);
        }
        for (int i = 0; i < 20; i++) {
            due.is("row", x.row(i), 1000L + i);
        }
        x.act(0, 3, 0);
        for (int taken = 1; taken <= 20; taken++) {
            x.call(0, 0, 0);
            due.noRowValue(x, 20 - taken);
            for (int i = 0; i < 20 - taken; i++) {
                due.is("row after taking", x.row(i), 1000L + taken + i);
            }
        }
        exactException(due, x);
        due.end();
    }

    private static void exactException(Due due, LibraryDesk x) {
        boolean exact = false;
        try {
            x.row(0);
        } catch (RuntimeException e) {
            exact = e.getClass() == ArrayIndexOutOfBoundsException.class;
        }
        due.is("row throws just ArrayIndexOutOfBoundsException", exact, true);
    }
}
