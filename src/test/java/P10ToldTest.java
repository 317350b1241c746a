/** Promise 10: told. */
public final class P10ToldTest {
    public static void main(String[] args) {
        Due due = new Due("P10ToldTest");
        LibraryDesk x = new LibraryDesk();
        told(due, x, 0, 0, 0, 0, 0, 0, 0);
        x.call(0, 0, 0);
        x.call(0, 0, 0);
        x.call(0, 0, 0);
        x.call(10, 8, 0);
        x.call(-1, 9, 0);
        told(due, x, 3, 2, 0, 0, 0, 0, 0);
        x.act(9, 2, 0);
        x.act(9, 3, 0);
        x.call(9, -77, 0);
        told(due, x, 3, 2, 1, 8, 1, 9, -77);
        x.call(0, 5, 0);
        x.call(11, 6, 0);
        told(due, x, 4, 3, 1, 8, 1, 9, -77);
        x.act(2, 1, 0);
        x.call(2, Integer.MAX_VALUE, 0);
        told(due, x, 4, 3, 2, 7, 0, 2, Integer.MAX_VALUE);
        x.fails(9, 0, 5);
        x.call(9, 0, 0);
        told(due, x, 4, 3, 3, 5, 0, 9, 0);
        int[] wrong = {-1, 7, Integer.MIN_VALUE, Integer.MAX_VALUE};
        for (int what : wrong) {
            due.is("told of another what", x.told(what), -1);
        }
        due.end();
    }

    private static void told(Due due, LibraryDesk x, int... want) {
        for (int what = 0; what < want.length; what++) {
            due.is("told(" + what + ")", x.told(what), want[what]);
        }
    }
}
