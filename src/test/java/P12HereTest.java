/** Promise 12: here. */
public final class P12HereTest {
    public static void main(String[] args) {
        Due due = new Due("P12HereTest");
        onceItIsMade(due);
        tillItIsDropped(due);
        noSuchNumber(due);
        noSuchKind(due);
        due.end();
    }

    private static void onceItIsMade(Due due) {
        due.sentence("Whether a number of a KIND is HERE: once it is made");
        Desk x = new Desk();
        for (int number = 1; number <= 40; number++) {
            due.is("here(7, " + number + ") before", x.here(7, number), false);
            x.make(7);
            due.is("here(7, " + number + ")", x.here(7, number), true);
            due.is("here(6, " + number + "), of another kind", x.here(6, number), false);
        }
    }

    private static void tillItIsDropped(Due due) {
        due.sentence("Whether a number of a KIND is HERE: till it is dropped");
        Desk x = new Desk();
        x.make(7, 40);
        x.make(6, 40);
        int[] dropped = {1, 8, 32, 33, 39, 40};
        for (int number : dropped) {
            x.drop(7, number);
            due.is("here(7, " + number + ")", x.here(7, number), false);
            due.is("here(6, " + number + "), of another kind", x.here(6, number), true);
        }
        due.is("here(7, 2)", x.here(7, 2), true);
        due.is("here(7, 38)", x.here(7, 38), true);
    }

    private static void noSuchNumber(Due due) {
        due.sentence("Whether a number of a KIND is HERE: no such number is");
        Desk x = new Desk();
        x.make(0, 40);
        for (int number : Outside.NUMBERS) {
            due.is("here(0, " + number + ")", x.here(0, number), false);
        }
        due.is("here(0, 1)", x.here(0, 1), true);
        due.is("here(0, 40)", x.here(0, 40), true);
    }

    private static void noSuchKind(Due due) {
        due.sentence("Whether a number of a KIND is HERE: none of no KIND is");
        Desk x = new Desk();
        for (int kind = 0; kind <= 7; kind++) {
            x.make(kind, 2);
        }
        for (int kind : Outside.KINDS) {
            due.is("here(" + kind + ", 1)", x.here(kind, 1), false);
            due.is("here(" + kind + ", 2)", x.here(kind, 2), false);
            due.is("here(" + kind + ", 0)", x.here(kind, 0), false);
        }
    }
}
