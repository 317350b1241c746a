/** Promise 1: no numbers, no ACTS, THE ROW is empty. */
public final class P01NewObjectTest {
    public static void main(String[] args) {
        Due due = new Due("P01NewObjectTest");
        newObjectHasNothing(due);
        objectsShareNothing(due);
        due.end();
    }

    private static void newObjectHasNothing(Due due) {
        LibraryDesk x = new LibraryDesk();
        due.row(x);
        for (int kind = 0; kind < 8; kind++) {
            due.is("numbers", x.numbers(kind), 0);
            due.is("tally", x.tally(kind), 0);
            for (int number = 0; number <= 41; number++) {
                due.is("here", x.here(kind, number), false);
            }
        }
        for (int what = 0; what <= 6; what++) {
            due.is("told", x.told(what), 0);
        }
        for (int call = 0; call < 10; call++) {
            due.is("again", x.again(call, call, 70L + call), 70L + call);
            due.is("wants", x.wants(call, -1), -1);
            due.is("act", x.act(call, 0, 0), 1);
        }
    }

    private static void objectsShareNothing(Due due) {
        LibraryDesk x = new LibraryDesk();
        LibraryDesk y = new LibraryDesk();
        x.make(0);
        x.collect(5);
        x.wants(0, 0);
        x.act(0, 2, 1);
        x.call(0, 1, 9);
        due.is("other numbers", y.numbers(0), 0);
        due.is("other tally", y.tally(1), 0);
        due.is("other told", y.told(0), 0);
        due.is("other call", y.call(0, 1, 9), 9);
        due.is("other tally after", y.tally(1), 0);
        due.row(y);
        due.row(x, 5);
    }
}
