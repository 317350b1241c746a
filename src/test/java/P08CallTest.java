/** Promise 8: call. What TO CALL means is tested term by term in T06 .. T09. */
public final class P08CallTest {
    public static void main(String[] args) {
        Due due = new Due("P08CallTest");
        theAnswerRefusedOrFailed(due);
        itIsKept(due);
        anAnswerMayLookLikeRefusedOrFailed(due);
        due.end();
    }

    private static void theAnswerRefusedOrFailed(Due due) {
        due.sentence("TO CALL: THE ANSWER, REFUSED or FAILED");
        Desk x = new Desk();
        x.make(0);
        x.wants(0, 0);
        x.act(0, 3, 1);
        x.act(0, 4, 1);
        due.is("call on an empty row", x.call(0, 1, 6), LibraryDesk.FAILED);
        due.is("call with a number not here, the row being empty", x.call(0, 2, 6), LibraryDesk.REFUSED);
        x.collect(5);
        due.is("call with a number not here", x.call(0, 2, 6), LibraryDesk.REFUSED);
        due.row(x, 5);
        due.is("call", x.call(0, 1, 6), 31 * 6 + 5);
        due.told(x, 1, 2, 1, 8, 0, 0, 1);
    }

    private static void itIsKept(Due due) {
        due.sentence("TO CALL: what its ACTS did is kept if none FAILED");
        Desk x = new Desk();
        x.make(0, 2);
        x.make(1);
        x.collect(11, 2);
        x.wants(0, 1);
        x.act(0, 0, 0);
        x.act(0, 0, 0);
        x.act(0, 6, 0);
        x.act(0, 2, 2);
        x.act(0, 3, 3);
        x.act(0, 1, 0);
        due.is("call", x.call(0, 1, 5), 5);
        due.is("numbers(0)", x.numbers(0), 3);
        due.is("here(0, 3)", x.here(0, 3), true);
        due.is("here(0, 4), made and dropped", x.here(0, 4), false);
        due.is("numbers(1)", x.numbers(1), 0);
        due.is("tally(2)", x.tally(2), 5);
        due.is("tally(3)", x.tally(3), 11);
        due.row(x, 12);
        due.is("make(0)", x.make(0), 5);
    }

    private static void anAnswerMayLookLikeRefusedOrFailed(Due due) {
        due.sentence("THE ANSWER may be the long that REFUSED or FAILED is");
        Desk x = new Desk();
        x.act(0, 2, 0);
        due.is("call", x.call(0, 0, LibraryDesk.FAILED), LibraryDesk.FAILED);
        due.is("tally(0), grown all the same", x.tally(0), LibraryDesk.FAILED);
        due.is("call", x.call(0, 0, LibraryDesk.REFUSED), LibraryDesk.REFUSED);
        due.is("tally(0)", x.tally(0), LibraryDesk.FAILED + LibraryDesk.REFUSED);
        due.told(x, 2, 0, 0, 0, 0, 0, 0);
    }
}
