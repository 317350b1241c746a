/** Promise 2: collect. */
public final class P02CollectTest {
    public static void main(String[] args) {
        Due due = new Due("P02CollectTest");
        howManyTheRowHas(due);
        noneIfItHas20(due);
        afterOneWasTaken(due);
        due.end();
    }

    private static void howManyTheRowHas(Due due) {
        due.sentence("A value more is collected: how many THE ROW has");
        Desk x = new Desk();
        due.is("collect of the least long", x.collect(Long.MIN_VALUE), 1);
        due.is("collect of the greatest long", x.collect(Long.MAX_VALUE), 2);
        due.is("collect(0)", x.collect(0), 3);
        due.is("collect(-1)", x.collect(-1), 4);
        due.is("collect(1L << 32)", x.collect(1L << 32), 5);
        due.row(x, Long.MIN_VALUE, Long.MAX_VALUE, 0, -1, 1L << 32);
    }

    private static void noneIfItHas20(Due due) {
        due.sentence("NONE if it has 20");
        Desk x = new Desk();
        x.collect(1, 18);
        due.is("collect with 18", x.collect(19), 19);
        due.is("collect with 19", x.collect(20), 20);
        due.is("collect with 20", x.collect(21), LibraryDesk.NONE);
        due.is("collect with 20, again", x.collect(21), LibraryDesk.NONE);
        due.row(x, 1, 2, 3, 4, 5, 6, 7, 8, 9, 10, 11, 12, 13, 14, 15, 16, 17, 18, 19, 20);
    }

    private static void afterOneWasTaken(Due due) {
        due.sentence("NONE if it has 20: it has 19 once a call took one, and 20 still once one failed");
        Desk x = new Desk();
        x.act(0, 3, 0);
        x.act(0, 2, 0);
        x.collect(1, 20);
        x.fails(0, 1, 1);
        x.call(0, 0, 0);
        due.is("collect after a call that failed", x.collect(99), -1);
        x.again(0, 0, 0);
        due.is("collect after again", x.collect(99), -1);
        x.call(0, 0, 0);
        due.is("collect after a call that took one", x.collect(21), 20);
        due.is("collect with 20", x.collect(99), -1);
        due.row(x, 2, 3, 4, 5, 6, 7, 8, 9, 10, 11, 12, 13, 14, 15, 16, 17, 18, 19, 20, 21);
    }
}
