/** Promise 11: numbers. */
public final class P11NumbersTest {
    public static void main(String[] args) {
        Due due = new Due("P11NumbersTest");
        howManyAreHere(due);
        noneAndAll(due);
        noSuchKind(due);
        due.end();
    }

    private static void howManyAreHere(Due due) {
        due.sentence("How many numbers of a KIND are HERE");
        Desk x = new Desk();
        for (int kind = 0; kind <= 7; kind++) {
            x.make(kind, kind + 1);
        }
        for (int kind = 0; kind <= 7; kind++) {
            due.is("numbers(" + kind + ")", x.numbers(kind), kind + 1);
        }
        x.drop(7, 3);
        x.drop(7, 3);
        due.is("numbers(7) after a drop", x.numbers(7), 7);
        x.make(7);
        due.is("numbers(7) after a make", x.numbers(7), 8);
    }

    private static void noneAndAll(Due due) {
        due.sentence("How many numbers of a KIND are HERE: 0 and 40 too");
        Desk x = new Desk();
        due.is("numbers(5) with none made", x.numbers(5), 0);
        x.make(5, 40);
        due.is("numbers(5) with all here", x.numbers(5), 40);
        x.make(5);
        due.is("numbers(5) after one too many", x.numbers(5), 40);
        for (int number = 1; number <= 40; number++) {
            x.drop(5, number);
        }
        due.is("numbers(5) with all dropped", x.numbers(5), 0);
    }

    private static void noSuchKind(Due due) {
        due.sentence("NONE if there is no such KIND");
        for (Situation situation : Situation.values()) {
            Desk x = situation.desk();
            for (int kind : Outside.KINDS) {
                due.is(situation + ": numbers(" + kind + ")", x.numbers(kind), LibraryDesk.NONE);
            }
        }
    }
}
