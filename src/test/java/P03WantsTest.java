/** Promise 3: wants. */
public final class P03WantsTest {
    public static void main(String[] args) {
        Due due = new Due("P03WantsTest");
        LibraryDesk x = new LibraryDesk();
        for (int call = 0; call < 10; call++) {
            int before = -1;
            for (int kind = 0; kind < 8; kind++) {
                due.is("wants", x.wants(call, kind), before);
                before = kind;
            }
        }
        due.is("wants of the edge", x.wants(9, -1), 7);
        due.is("wants none twice", x.wants(9, -1), -1);
        wrongOnesChangeNothing(due);
        aWantIsMinded(due);
        due.end();
    }

    private static void wrongOnesChangeNothing(Due due) {
        LibraryDesk x = new LibraryDesk();
        x.wants(4, 3);
        int[] wrongCalls = {-1, 10, 11, Integer.MIN_VALUE, Integer.MAX_VALUE};
        for (int call : wrongCalls) {
            due.is("wants of no call", x.wants(call, 0), -2);
            due.is("wants none of no call", x.wants(call, -1), -2);
        }
        int[] wrongKinds = {-2, 8, 9, Integer.MIN_VALUE, Integer.MAX_VALUE};
        for (int kind : wrongKinds) {
            due.is("wants of no kind", x.wants(4, kind), -2);
        }
        due.is("wants after wrong ones", x.wants(4, 5), 3);
    }

    private static void aWantIsMinded(Due due) {
        LibraryDesk x = new LibraryDesk();
        x.make(6);
        x.wants(0, 6);
        due.is("call with its number", x.call(0, 1, 8), 8);
        due.is("call with another", x.call(0, 2, 8), LibraryDesk.REFUSED);
        x.wants(0, 7);
        due.is("call with another kind's number", x.call(0, 1, 8), LibraryDesk.REFUSED);
        x.wants(0, -1);
        due.is("call that wants none", x.call(0, -4, 8), 8);
    }
}
