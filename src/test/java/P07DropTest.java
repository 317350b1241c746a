/** Promise 7: drop. */
public final class P07DropTest {
    public static void main(String[] args) {
        Due due = new Due("P07DropTest");
        LibraryDesk x = new LibraryDesk();
        for (int i = 0; i < 40; i++) {
            x.make(2);
        }
        due.is("drop the first", x.drop(2, 1), true);
        due.is("drop the last", x.drop(2, 40), true);
        due.is("drop one between", x.drop(2, 33), true);
        due.is("drop it twice", x.drop(2, 33), false);
        due.is("numbers", x.numbers(2), 37);
        due.is("here", x.here(2, 33), false);
        due.is("here beside it", x.here(2, 32), true);
        due.is("here 32 below it", x.here(2, 8), true);
        due.is("drop of another kind", x.drop(1, 2), false);
        int[] wrongNumbers = {0, -1, 41, 64, 66, 63, -62, Integer.MIN_VALUE, Integer.MAX_VALUE};
        for (int number : wrongNumbers) {
            due.is("drop of no number", x.drop(2, number), false);
        }
        int[] wrongKinds = {-1, 8, Integer.MIN_VALUE, Integer.MAX_VALUE};
        for (int kind : wrongKinds) {
            due.is("drop of no kind", x.drop(kind, 2), false);
        }
        due.is("numbers after wrong ones", x.numbers(2), 37);
        x.make(4);
        due.is("drop of one not made yet", x.drop(4, 2), false);
        due.is("make it then", x.make(4), 2);
        due.is("it is here", x.here(4, 2), true);
        due.end();
    }
}
