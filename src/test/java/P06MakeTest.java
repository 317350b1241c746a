/** Promise 6: make. */
public final class P06MakeTest {
    public static void main(String[] args) {
        Due due = new Due("P06MakeTest");
        aNumberIsMade(due);
        noSuchKind(due);
        noneIfItHas40(due);
        noneIfItHas40AndSomeAreDropped(due);
        due.end();
    }

    private static void aNumberIsMade(Due due) {
        due.sentence("A number of a KIND is made: it");
        Desk x = new Desk();
        for (int kind = 0; kind <= 7; kind++) {
            for (int number = 1; number <= 3; number++) {
                due.is("make(" + kind + ")", x.make(kind), number);
                due.is("here(" + kind + ", " + number + ")", x.here(kind, number), true);
            }
        }
    }

    private static void noSuchKind(Due due) {
        due.sentence("NONE if there is no such KIND");
        Desk x = new Desk();
        for (int kind : Outside.KINDS) {
            due.is("make(" + kind + ")", x.make(kind), LibraryDesk.NONE);
        }
        for (int kind = 0; kind <= 7; kind++) {
            due.is("numbers(" + kind + ") after them", x.numbers(kind), 0);
            due.is("make(" + kind + ") after them", x.make(kind), 1);
        }
    }

    private static void noneIfItHas40(Due due) {
        due.sentence("NONE if .. it has 40");
        int[] kinds = {0, 7};
        for (int kind : kinds) {
            Desk x = new Desk();
            x.make(kind, 38);
            due.is("make with 38", x.make(kind), 39);
            due.is("make with 39", x.make(kind), 40);
            due.is("make with 40", x.make(kind), LibraryDesk.NONE);
            due.is("make with 40, again", x.make(kind), LibraryDesk.NONE);
            due.is("numbers(" + kind + ")", x.numbers(kind), 40);
            due.is("make of another kind", x.make(7 - kind), 1);
        }
    }

    private static void noneIfItHas40AndSomeAreDropped(Due due) {
        due.sentence("NONE if .. it has 40: dropped ones are never made again");
        int[] dropped = {1, 20, 40};
        for (int number : dropped) {
            Desk x = new Desk();
            x.make(4, 40);
            x.drop(4, number);
            due.is("make with 40, one being dropped", x.make(4), LibraryDesk.NONE);
            due.is("here(4, " + number + ")", x.here(4, number), false);
            due.is("numbers(4)", x.numbers(4), 39);
        }
        Desk x = new Desk();
        x.make(4, 39);
        x.drop(4, 39);
        due.is("make with 39, one being dropped", x.make(4), 40);
        due.is("make after it", x.make(4), LibraryDesk.NONE);
    }
}
