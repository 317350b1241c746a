/** Promise 12: here. */
public final class P12HereTest {
    public static void main(String[] args) {
        Due due = new Due("P12HereTest");
        LibraryDesk x = new LibraryDesk();
        for (int made = 1; made <= 40; made++) {
            due.is("here before it is made", x.here(7, made), false);
            x.make(7);
            due.is("here once it is made", x.here(7, made), true);
        }
        int[] wrongNumbers = {0, -1, 41, 63, 64, 65, 104, -24, Integer.MIN_VALUE, Integer.MAX_VALUE};
        for (int number : wrongNumbers) {
            due.is("here of no number", x.here(7, number), false);
        }
        int[] wrongKinds = {-1, 8, Integer.MIN_VALUE, Integer.MAX_VALUE};
        for (int kind : wrongKinds) {
            due.is("here of no kind", x.here(kind, 1), false);
        }
        due.is("here of another kind", x.here(6, 1), false);
        x.drop(7, 39);
        due.is("here once dropped", x.here(7, 39), false);
        due.is("here beside it", x.here(7, 40) && x.here(7, 38), true);
        due.end();
    }
}
