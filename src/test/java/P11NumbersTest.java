/** Promise 11: numbers. */
public final class P11NumbersTest {
    public static void main(String[] args) {
        Due due = new Due("P11NumbersTest");
        LibraryDesk x = new LibraryDesk();
        for (int kind = 0; kind < 8; kind++) {
            for (int i = 0; i <= kind; i++) {
                x.make(kind);
            }
        }
        for (int kind = 0; kind < 8; kind++) {
            due.is("numbers", x.numbers(kind), kind + 1);
        }
        x.drop(7, 3);
        x.drop(7, 3);
        due.is("numbers after a drop", x.numbers(7), 7);
        x.make(7);
        due.is("numbers after a make", x.numbers(7), 8);
        int[] wrong = {-1, 8, Integer.MIN_VALUE, Integer.MAX_VALUE};
        for (int kind : wrong) {
            due.is("numbers of no kind", x.numbers(kind), -1);
        }
        due.end();
    }
}
