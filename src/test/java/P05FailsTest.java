/** Promise 5: fails. */
public final class P05FailsTest {
    public static void main(String[] args) {
        Due due = new Due("P05FailsTest");
        eachActWithEach(due);
        wrongOnesChangeNothing(due);
        laterTakesThePlaceOfEarlier(due);
        atAnActThatItHasNot(due);
        anEarlierFailureDoesNotUseItUp(due);
        insteadOfTheActsOwnFailure(due);
        callsAreToldApart(due);
        due.end();
    }

    private static LibraryDesk growing() {
        LibraryDesk x = new LibraryDesk();
        for (int i = 0; i < 6; i++) {
            x.act(0, 2, i);
        }
        return x;
    }

    private static void eachActWithEach(Due due) {
        for (int i = 0; i < 6; i++) {
            for (int with = 1; with <= 5; with++) {
                LibraryDesk x = growing();
                due.is("fails", x.fails(0, i, with), 1);
                due.is("again", x.again(0, 0, 1), LibraryDesk.FAILED);
                due.is("again", x.again(0, 0, 1), LibraryDesk.FAILED);
                due.is("call", x.call(0, 0, 1), LibraryDesk.FAILED);
                due.is("told with", x.told(3), with);
                due.is("told act", x.told(4), i);
                due.is("again, used up", x.again(0, 0, 1), 1);
                due.is("call, used up", x.call(0, 0, 1), 1);
                due.is("tally", x.tally(0), 1);
            }
        }
    }

    private static void wrongOnesChangeNothing(Due due) {
        LibraryDesk x = growing();
        x.fails(0, 2, 3);
        int[] wrong = {-1, Integer.MIN_VALUE, Integer.MAX_VALUE, 10};
        for (int w : wrong) {
            due.is("fails of no call", x.fails(w, 0, 1), 0);
            due.is("fails at no act", x.fails(0, w, 1), 0);
            due.is("fails with none", x.fails(0, 0, w), 0);
        }
        due.is("fails at 6", x.fails(0, 6, 1), 0);
        due.is("fails with 0", x.fails(0, 0, 0), 0);
        due.is("fails with 6", x.fails(0, 0, 6), 0);
        due.is("fails of 9", x.fails(9, 5, 5), 1);
        due.is("call", x.call(0, 0, 1), LibraryDesk.FAILED);
        due.is("told with", x.told(3), 3);
        due.is("told act", x.told(4), 2);
    }

    private static void laterTakesThePlaceOfEarlier(Due due) {
        LibraryDesk x = growing();
        x.fails(0, 1, 1);
        due.is("fails anew", x.fails(0, 4, 2), 1);
        due.is("call", x.call(0, 0, 1), LibraryDesk.FAILED);
        due.is("told with", x.told(3), 2);
        due.is("told act", x.told(4), 4);
        due.is("call, nothing is left of the first", x.call(0, 0, 1), 1);
    }

    private static void atAnActThatItHasNot(Due due) {
        LibraryDesk x = new LibraryDesk();
        due.is("fails without acts", x.fails(3, 1, 5), 1);
        due.is("call without acts", x.call(3, 0, 6), 6);
        x.act(3, 2, 0);
        due.is("call with one act", x.call(3, 0, 6), 6);
        x.act(3, 2, 0);
        due.is("call with two acts", x.call(3, 0, 6), LibraryDesk.FAILED);
        due.is("told with", x.told(3), 5);
        due.is("told act", x.told(4), 1);
        due.is("call after it", x.call(3, 0, 6), 6);
        due.is("tally", x.tally(0), 18);
    }

    private static void anEarlierFailureDoesNotUseItUp(Due due) {
        LibraryDesk x = new LibraryDesk();
        x.act(0, 3, 0);
        x.act(0, 2, 0);
        x.fails(0, 1, 2);
        due.is("call on an empty row", x.call(0, 0, 1), LibraryDesk.FAILED);
        due.is("told with", x.told(3), 8);
        x.collect(4);
        x.wants(0, 0);
        due.is("refused", x.call(0, 1, 1), LibraryDesk.REFUSED);
        x.wants(0, -1);
        due.is("call", x.call(0, 0, 1), LibraryDesk.FAILED);
        due.is("told with", x.told(3), 2);
        due.row(x, 4);
        due.is("call after both", x.call(0, 0, 1), 1);
        due.is("tally", x.tally(0), 5);
    }

    private static void insteadOfTheActsOwnFailure(Due due) {
        LibraryDesk x = new LibraryDesk();
        x.act(0, 1, 0);
        x.fails(0, 0, 4);
        due.is("call", x.call(0, 0, 1), LibraryDesk.FAILED);
        due.is("told with", x.told(3), 4);
        due.is("call", x.call(0, 0, 1), LibraryDesk.FAILED);
        due.is("told with", x.told(3), 7);
    }

    private static void callsAreToldApart(Due due) {
        LibraryDesk x = new LibraryDesk();
        x.act(0, 2, 0);
        x.act(1, 2, 0);
        x.fails(0, 0, 1);
        x.fails(1, 0, 2);
        due.is("call 1", x.call(1, 0, 1), LibraryDesk.FAILED);
        due.is("told with", x.told(3), 2);
        due.is("call 0", x.call(0, 0, 1), LibraryDesk.FAILED);
        due.is("told with", x.told(3), 1);
    }
}
