/** Promise 7: drop. */
public final class P07DropTest {
    public static void main(String[] args) {
        Due due = new Due("P07DropTest");
        aNumberIsDropped(due);
        falseIfNotMadeYet(due);
        falseIfDroppedBefore(due);
        falseIfThereIsNoSuchNumber(due);
        falseIfThereIsNoSuchKind(due);
        due.end();
    }

    private static void aNumberIsDropped(Due due) {
        due.sentence("A number is dropped: true");
        Desk x = new Desk();
        x.make(2, 40);
        for (int number = 1; number <= 40; number++) {
            due.is("drop(2, " + number + ")", x.drop(2, number), true);
            due.is("here(2, " + number + ")", x.here(2, number), false);
            due.is("here of the next", x.here(2, number + 1), number < 40);
            due.is("numbers(2)", x.numbers(2), 40 - number);
        }
    }

    private static void falseIfNotMadeYet(Due due) {
        due.sentence("false if it is not HERE: not made yet");
        Desk x = new Desk();
        due.is("drop(4, 1) with none made", x.drop(4, 1), false);
        due.is("make(4)", x.make(4), 1);
        due.is("drop(4, 2) with one made", x.drop(4, 2), false);
        due.is("make(4)", x.make(4), 2);
        due.is("here(4, 2)", x.here(4, 2), true);
        due.is("drop(3, 1), of another kind", x.drop(3, 1), false);
        due.is("here(4, 1)", x.here(4, 1), true);
    }

    private static void falseIfDroppedBefore(Due due) {
        due.sentence("false if it is not HERE: dropped before, by a call too");
        Desk x = new Desk();
        x.make(0, 3);
        x.wants(0, 0);
        x.act(0, 6, 0);
        x.act(1, 1, 0);
        due.is("drop(0, 2)", x.drop(0, 2), true);
        due.is("drop(0, 2) twice", x.drop(0, 2), false);
        x.call(0, 1, 0);
        due.is("drop(0, 1), dropped as the called", x.drop(0, 1), false);
        due.is("drop(0, 3) is due still: here", x.here(0, 3), true);
        x.call(1, 0, 0);
        due.is("drop(0, 3), dropped as the greatest", x.drop(0, 3), false);
        due.is("numbers(0)", x.numbers(0), 0);
    }

    private static void falseIfThereIsNoSuchNumber(Due due) {
        due.sentence("false if it is not HERE: no such number");
        Desk x = new Desk();
        x.make(2, 40);
        for (int number : Outside.NUMBERS) {
            due.is("drop(2, " + number + ")", x.drop(2, number), false);
        }
        due.is("numbers(2)", x.numbers(2), 40);
    }

    private static void falseIfThereIsNoSuchKind(Due due) {
        due.sentence("false if it is not HERE: no such KIND");
        Desk x = new Desk();
        for (int kind = 0; kind <= 7; kind++) {
            x.make(kind);
        }
        for (int kind : Outside.KINDS) {
            due.is("drop(" + kind + ", 1)", x.drop(kind, 1), false);
        }
        for (int kind = 0; kind <= 7; kind++) {
            due.is("here(" + kind + ", 1)", x.here(kind, 1), true);
        }
    }
}
