/** Promise 8: call, each sort of act, and what is as before when one fails. */
public final class P08CallTest {
    public static void main(String[] args) {
        Due due = new Due("P08CallTest");
        refused(due);
        makes(due);
        dropsTheGreatest(due);
        grows(due);
        takesFromTheRow(due);
        answers(due);
        dropsTheCalled(due);
        failureLeavesNothing(due);
        anAnswerMayLookLikeRefusedOrFailed(due);
        due.end();
    }

    private static void refused(Due due) {
        LibraryDesk x = new LibraryDesk();
        int[] wrongCalls = {-1, 10, Integer.MIN_VALUE, Integer.MAX_VALUE};
        for (int call : wrongCalls) {
            due.is("call of no call", x.call(call, 0, 1), LibraryDesk.REFUSED);
        }
        x.act(0, 2, 0);
        x.wants(0, 5);
        x.make(5);
        x.make(5);
        x.drop(5, 2);
        int[] wrongNumbers = {0, -1, 2, 3, 41, 65, Integer.MIN_VALUE, Integer.MAX_VALUE};
        for (int number : wrongNumbers) {
            due.is("call with a number not here", x.call(0, number, 1), LibraryDesk.REFUSED);
        }
        due.is("tally", x.tally(0), 0);
        due.is("call with a number here", x.call(0, 1, 1), 1);
        due.is("tally", x.tally(0), 1);
    }

    private static void makes(Due due) {
        LibraryDesk x = new LibraryDesk();
        x.act(0, 0, 1);
        for (int i = 1; i <= 40; i++) {
            due.is("call that makes", x.call(0, 0, 3), 3);
            due.is("here", x.here(1, i), true);
        }
        x.drop(1, 7);
        due.is("call that makes a 41st", x.call(0, 0, 3), LibraryDesk.FAILED);
        due.is("told with", x.told(3), 6);
        due.is("numbers", x.numbers(1), 39);
    }

    private static void dropsTheGreatest(Due due) {
        LibraryDesk x = new LibraryDesk();
        x.act(0, 1, 2);
        x.act(0, 1, 2);
        for (int i = 0; i < 5; i++) {
            x.make(2);
        }
        x.drop(2, 4);
        due.is("call", x.call(0, 0, 3), 3);
        due.is("here 5", x.here(2, 5), false);
        due.is("here 3", x.here(2, 3), false);
        due.is("here 2", x.here(2, 2), true);
        x.drop(2, 1);
        due.is("call with one left", x.call(0, 0, 3), LibraryDesk.FAILED);
        due.is("told with", x.told(3), 7);
        due.is("told act", x.told(4), 1);
        due.is("here 2 still", x.here(2, 2), true);
        due.is("make", x.make(2), 6);
    }

    private static void grows(Due due) {
        LibraryDesk x = new LibraryDesk();
        x.act(0, 2, 7);
        due.is("call", x.call(0, 0, Long.MAX_VALUE), Long.MAX_VALUE);
        due.is("tally", x.tally(7), Long.MAX_VALUE);
        x.call(0, 0, 2);
        due.is("tally runs over", x.tally(7), Long.MIN_VALUE + 1);
        x.act(1, 5, 0);
        x.act(1, 2, 0);
        due.is("call", x.call(1, 0, 2), 62);
        due.is("tally grows by a, not THE ANSWER", x.tally(0), 2);
    }

    private static void takesFromTheRow(Due due) {
        LibraryDesk x = new LibraryDesk();
        x.act(0, 3, 3);
        x.act(1, 3, 4);
        x.collect(10);
        x.collect(-3);
        x.collect(Long.MAX_VALUE);
        x.call(0, 0, 0);
        due.row(x, -3, Long.MAX_VALUE);
        x.call(1, 0, 0);
        x.call(0, 0, 0);
        due.row(x);
        due.is("tally", x.tally(3), Long.MAX_VALUE + 10);
        due.is("tally", x.tally(4), -3);
        due.is("call on an empty row", x.call(0, 0, 0), LibraryDesk.FAILED);
        due.is("told with", x.told(3), 8);
    }

    private static void answers(Due due) {
        LibraryDesk x = new LibraryDesk();
        x.act(0, 4, 0);
        x.act(1, 5, 0);
        x.act(2, 2, 0);
        x.call(2, 0, 100);
        x.make(0);
        x.make(0);
        x.drop(0, 1);
        due.is("answer with the tally", x.call(0, 0, 2), 162);
        due.is("answer with the numbers here", x.call(1, 0, -2), -61);
        due.is("answer runs over", x.call(1, 0, Long.MAX_VALUE), Long.MAX_VALUE * 31 + 1);
    }

    private static void dropsTheCalled(Due due) {
        LibraryDesk x = new LibraryDesk();
        x.act(0, 6, 5);
        x.make(5);
        x.make(1);
        x.make(1);
        due.is("call that wants none", x.call(0, 1, 4), LibraryDesk.FAILED);
        due.is("told with", x.told(3), 7);
        x.wants(0, 1);
        due.is("call", x.call(0, 1, 4), 4);
        due.is("here", x.here(1, 1), false);
        due.is("the act's kind does not matter", x.here(5, 1), true);
        x.act(0, 6, 5);
        due.is("call that drops it twice", x.call(0, 2, 4), LibraryDesk.FAILED);
        due.is("told with", x.told(3), 7);
        due.is("told act", x.told(4), 1);
        due.is("here still", x.here(1, 2), true);
        x.act(1, 1, 1);
        x.act(1, 6, 0);
        x.wants(1, 1);
        due.is("call that dropped it as the greatest", x.call(1, 2, 4), LibraryDesk.FAILED);
        due.is("here still", x.here(1, 2), true);
    }

    private static void failureLeavesNothing(Due due) {
        LibraryDesk x = new LibraryDesk();
        x.make(0);
        x.make(1);
        x.collect(11);
        x.collect(12);
        x.wants(0, 1);
        x.act(0, 0, 0);
        x.act(0, 0, 0);
        x.act(0, 6, 0);
        x.act(0, 2, 2);
        x.act(0, 3, 3);
        x.act(0, 1, 1);
        due.is("call", x.call(0, 1, 5), LibraryDesk.FAILED);
        due.is("told act", x.told(4), 5);
        due.is("numbers", x.numbers(0), 1);
        due.is("here", x.here(0, 2), false);
        due.is("here", x.here(1, 1), true);
        due.is("tally", x.tally(2), 0);
        due.is("tally", x.tally(3), 0);
        due.row(x, 11, 12);
        due.is("those made then are made again", x.make(0), 2);
        due.is("make", x.make(1), 2);
        due.is("call", x.call(0, 1, 5), 5);
        due.is("numbers", x.numbers(0), 4);
        due.is("numbers", x.numbers(1), 0);
        due.is("tally", x.tally(3), 11);
        due.row(x, 12);
        due.is("make after it", x.make(0), 5);
    }

    private static void anAnswerMayLookLikeRefusedOrFailed(Due due) {
        LibraryDesk x = new LibraryDesk();
        x.act(0, 2, 0);
        due.is("call", x.call(0, 0, LibraryDesk.FAILED), LibraryDesk.FAILED);
        due.is("tally", x.tally(0), LibraryDesk.FAILED);
        due.is("call", x.call(0, 0, LibraryDesk.REFUSED), LibraryDesk.REFUSED);
        due.is("told answered", x.told(0), 2);
        due.is("told refused", x.told(1), 0);
        due.is("told failed", x.told(2), 0);
    }
}
