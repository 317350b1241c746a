/** Promise 3: wants. */
public final class P03WantsTest {
    public static void main(String[] args) {
        Due due = new Due("P03WantsTest");
        theOneBefore(due);
        fromNowOn(due);
        minusOneIsNone(due);
        noSuchCall(due);
        noSuchKind(due);
        due.end();
    }

    private static void theOneBefore(Due due) {
        due.sentence("A call wants a number of a KIND from now on: the one before");
        Desk x = new Desk();
        for (int call = 0; call <= 9; call++) {
            int before = -1;
            for (int kind = 0; kind <= 7; kind++) {
                due.is("wants(" + call + ", " + kind + ")", x.wants(call, kind), before);
                before = kind;
            }
            due.is("wants(" + call + ", 7) twice", x.wants(call, 7), 7);
        }
    }

    private static void fromNowOn(Due due) {
        due.sentence("A call wants a number of a KIND from now on");
        Desk x = new Desk();
        x.make(6);
        due.is("call that wants none", x.call(0, 2, 8), 8);
        x.wants(0, 6);
        due.is("call with a number here", x.call(0, 1, 8), 8);
        due.is("call with one that is not", x.call(0, 2, 8), LibraryDesk.REFUSED);
        due.is("another call", x.call(1, 2, 8), 8);
        x.wants(0, 7);
        due.is("call with another kind's number", x.call(0, 1, 8), LibraryDesk.REFUSED);
    }

    private static void minusOneIsNone(Due due) {
        due.sentence("(-1: none)");
        Desk x = new Desk();
        due.is("wants(9, -1) at first", x.wants(9, -1), -1);
        due.is("wants(9, 0)", x.wants(9, 0), -1);
        due.is("call that wants kind 0", x.call(9, 1, 8), LibraryDesk.REFUSED);
        due.is("wants(9, -1)", x.wants(9, -1), 0);
        due.is("call that wants none", x.call(9, -1, 8), 8);
        due.is("wants(9, -1) twice", x.wants(9, -1), -1);
    }

    private static void noSuchCall(Due due) {
        due.sentence("-2 if there is no such call");
        Desk x = new Desk();
        for (int call : Outside.CALLS) {
            due.is("wants(" + call + ", 0)", x.wants(call, 0), -2);
            due.is("wants(" + call + ", -1)", x.wants(call, -1), -2);
            due.is("wants(" + call + ", 8)", x.wants(call, 8), -2);
        }
        for (int call = 0; call <= 9; call++) {
            due.is("wants(" + call + ", -1) after them", x.wants(call, -1), -1);
        }
    }

    private static void noSuchKind(Due due) {
        due.sentence("-2 if there is no such .. KIND");
        Desk x = new Desk();
        x.make(3);
        x.wants(4, 3);
        for (int kind : Outside.WANTS) {
            due.is("wants(4, " + kind + ")", x.wants(4, kind), -2);
            due.is("wants(5, " + kind + ")", x.wants(5, kind), -2);
        }
        due.is("call with a number here", x.call(4, 1, 8), 8);
        due.is("call with one that is not", x.call(4, 2, 8), LibraryDesk.REFUSED);
        due.is("wants(4, 5) after them", x.wants(4, 5), 3);
        due.is("wants(5, 5) after them", x.wants(5, 5), -1);
    }
}
