/** "An object is used for at most 512 calls after it has been made": the 512th is answered as the others. */
public final class T10MostCallsTest {
    public static void main(String[] args) {
        Due due = new Due("T10MostCallsTest");
        due.sentence("An object is used for at most 512 calls after it has been made");
        answered(due);
        refused(due);
        failed(due);
        due.end();
    }

    private static void answered(Due due) {
        Desk x = new Desk();
        x.act(0, 2, 0);
        while (x.callsMade() < Desk.MOST_CALLS - 2) {
            due.is("call", x.call(0, 0, 1), 1);
        }
        due.is("tally(0)", x.tally(0), Desk.MOST_CALLS - 3);
        due.is("told(0), the 512th call", x.told(0), Desk.MOST_CALLS - 3);
    }

    private static void refused(Due due) {
        Desk x = new Desk();
        while (x.callsMade() < Desk.MOST_CALLS - 1) {
            due.is("call", x.call(10, 0, 1), LibraryDesk.REFUSED);
        }
        due.is("told(1), the 512th call", x.told(1), Desk.MOST_CALLS - 1);
    }

    private static void failed(Due due) {
        Desk x = new Desk();
        x.act(0, 3, 0);
        while (x.callsMade() < Desk.MOST_CALLS - 1) {
            due.is("call", x.call(0, 0, 1), LibraryDesk.FAILED);
        }
        due.is("told(2), the 512th call", x.told(2), Desk.MOST_CALLS - 2);
    }
}
