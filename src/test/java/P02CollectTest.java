/** Promise 2: collect. */
public final class P02CollectTest {
    public static void main(String[] args) {
        Due due = new Due("P02CollectTest");
        LibraryDesk x = new LibraryDesk();
        due.is("collect MIN", x.collect(Long.MIN_VALUE), 1);
        due.is("collect MAX", x.collect(Long.MAX_VALUE), 2);
        due.row(x, Long.MIN_VALUE, Long.MAX_VALUE);
        for (int i = 3; i <= 20; i++) {
            due.is("collect", x.collect(i), i);
        }
        due.is("collect beyond 20", x.collect(99), -1);
        due.is("collect beyond 20", x.collect(99), -1);
        due.row(x, Long.MIN_VALUE, Long.MAX_VALUE, 3, 4, 5, 6, 7, 8, 9, 10, 11, 12, 13, 14, 15, 16, 17, 18, 19, 20);

        x.act(0, 3, 0);
        x.call(0, 0, 0);
        due.is("collect after one was taken", x.collect(21), 20);
        due.is("collect when full again", x.collect(22), -1);
        due.row(x, Long.MAX_VALUE, 3, 4, 5, 6, 7, 8, 9, 10, 11, 12, 13, 14, 15, 16, 17, 18, 19, 20, 21);
        due.end();
    }
}
