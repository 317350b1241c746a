/** Terms: "KINDS are 0 .. 7.", for every method that takes one. */
public final class T01KindsTest {
    public static void main(String[] args) {
        Due due = new Due("T01KindsTest");
        eachKindIsOne(due);
        kindsAreApart(due);
        noOtherIsOne(due);
        due.end();
    }

    private static void eachKindIsOne(Due due) {
        due.sentence("KINDS are 0 .. 7.");
        Desk x = new Desk();
        int wantedBefore = LibraryDesk.NONE;
        for (int kind = 0; kind <= 7; kind++) {
            due.is("wants(0, " + kind + ")", x.wants(0, kind), wantedBefore);
            wantedBefore = kind;
            due.is("act(1 + " + kind + ", 2, " + kind + ")", x.act(1 + kind, 2, kind), 1);
            due.is("call that grows the tally", x.call(1 + kind, 0, 6), 6);
            due.is("tally(" + kind + ")", x.tally(kind), 6);
            due.is("make(" + kind + ")", x.make(kind), 1);
            due.is("numbers(" + kind + ")", x.numbers(kind), 1);
            due.is("here(" + kind + ", 1)", x.here(kind, 1), true);
            due.is("drop(" + kind + ", 1)", x.drop(kind, 1), true);
        }
    }

    private static void kindsAreApart(Due due) {
        due.sentence("Of each there are NUMBERS");
        Desk x = new Desk();
        for (int kind = 0; kind <= 7; kind++) {
            x.make(kind, 2 * kind + 1);
            x.act(kind, 2, kind);
            x.call(kind, 0, 100 + kind);
        }
        for (int kind = 0; kind <= 7; kind++) {
            due.is("numbers(" + kind + ")", x.numbers(kind), 2 * kind + 1);
            due.is("tally(" + kind + ")", x.tally(kind), 100 + kind);
            due.is("here of its last", x.here(kind, 2 * kind + 1), true);
            due.is("here of one more", x.here(kind, 2 * kind + 2), false);
        }
    }

    private static void noOtherIsOne(Due due) {
        due.sentence("KINDS are 0 .. 7.: there is no other");
        Desk x = new Desk();
        for (int kind = 0; kind <= 7; kind++) {
            x.make(kind);
            x.act(kind, 2, kind);
            x.call(kind, 0, 3);
        }
        for (int kind : Outside.KINDS) {
            due.is("act(9, 2, " + kind + ")", x.act(9, 2, kind), -1);
            due.is("make(" + kind + ")", x.make(kind), -1);
            due.is("drop(" + kind + ", 1)", x.drop(kind, 1), false);
            due.is("numbers(" + kind + ")", x.numbers(kind), -1);
            due.is("here(" + kind + ", 1)", x.here(kind, 1), false);
            due.is("tally(" + kind + ")", x.tally(kind), 0);
        }
        for (int kind : Outside.WANTS) {
            due.is("wants(9, " + kind + ")", x.wants(9, kind), -2);
        }
    }
}
