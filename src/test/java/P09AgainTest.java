/** Promise 9: again answers as call() would, and changes nothing. */
public final class P09AgainTest {
    public static void main(String[] args) {
        Due due = new Due("P09AgainTest");
        nothingIsChanged(due);
        failuresAreNotUsedUpNorTold(due);
        due.is("again of no call", new LibraryDesk().again(10, 0, 0), LibraryDesk.REFUSED);
        due.is("again of no call", new LibraryDesk().again(Integer.MIN_VALUE, 0, 0), LibraryDesk.REFUSED);
        due.end();
    }

    private static void nothingIsChanged(Due due) {
        LibraryDesk x = new LibraryDesk();
        x.make(0);
        x.make(1);
        x.collect(7);
        x.wants(0, 0);
        x.act(0, 0, 1);
        x.act(0, 2, 2);
        x.act(0, 3, 2);
        x.act(0, 4, 2);
        x.act(0, 5, 1);
        x.act(0, 6, 0);
        long want = (31L * 5 + 12) * 31 + 2;
        for (int i = 0; i < 3; i++) {
            due.is("again", x.again(0, 1, 5), want);
            due.is("numbers", x.numbers(1), 1);
            due.is("here", x.here(0, 1), true);
            due.is("tally", x.tally(2), 0);
            due.is("told", x.told(0), 0);
            due.row(x, 7);
        }
        due.is("call", x.call(0, 1, 5), want);
        due.is("again, refused now", x.again(0, 1, 5), LibraryDesk.REFUSED);
        due.is("told refused", x.told(1), 0);
        due.is("make", x.make(1), 3);
    }

    private static void failuresAreNotUsedUpNorTold(Due due) {
        LibraryDesk x = new LibraryDesk();
        x.act(1, 2, 0);
        x.act(2, 3, 0);
        x.fails(1, 0, 3);
        due.is("call that fails", x.call(2, 44, 0), LibraryDesk.FAILED);
        due.is("again", x.again(1, 55, 0), LibraryDesk.FAILED);
        due.is("told failed", x.told(2), 1);
        due.is("told with", x.told(3), 8);
        due.is("told call", x.told(5), 2);
        due.is("told number", x.told(6), 44);
        due.is("call fails still", x.call(1, 55, 0), LibraryDesk.FAILED);
        due.is("told with", x.told(3), 3);
        due.is("again after it", x.again(1, 55, 9), 9);
        due.is("tally", x.tally(0), 0);
    }
}
