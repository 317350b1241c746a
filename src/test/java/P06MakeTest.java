/** Promise 6: make. */
public final class P06MakeTest {
    public static void main(String[] args) {
        Due due = new Due("P06MakeTest");
        LibraryDesk x = new LibraryDesk();
        for (int number = 1; number <= 40; number++) {
            due.is("make of the first kind", x.make(0), number);
            due.is("make of the last kind", x.make(7), number);
        }
        due.is("make of a 41st", x.make(0), -1);
        due.is("make of a 41st", x.make(7), -1);
        due.is("numbers", x.numbers(0), 40);
        due.is("drop", x.drop(0, 40), true);
        due.is("a dropped one is not made again", x.make(0), -1);
        due.is("here", x.here(0, 40), false);
        int[] wrong = {-1, 8, Integer.MIN_VALUE, Integer.MAX_VALUE};
        for (int kind : wrong) {
            due.is("make of no kind", x.make(kind), -1);
        }
        due.is("make of another kind", x.make(3), 1);
        due.is("drop", x.drop(3, 1), true);
        due.is("make after a drop", x.make(3), 2);
        due.end();
    }
}
