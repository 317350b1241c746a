/** Promise 1: a new object. */
public final class P01NewObjectTest {
    public static void main(String[] args) {
        Due due = new Due("P01NewObjectTest");
        noNumbers(due);
        noActs(due);
        theRowIsEmpty(due);
        objectsShareNothing(due);
        due.end();
    }

    private static void noNumbers(Due due) {
        due.sentence("LibraryDesk(): No numbers");
        for (int kind = 0; kind <= 7; kind++) {
            Desk x = new Desk();
            due.is("numbers(" + kind + ")", x.numbers(kind), 0);
            due.is("tally(" + kind + ")", x.tally(kind), 0);
            for (int number = 0; number <= 41; number++) {
                due.is("here(" + kind + ", " + number + ")", x.here(kind, number), false);
            }
            due.is("drop(" + kind + ", 1)", x.drop(kind, 1), false);
            due.is("make(" + kind + ")", x.make(kind), 1);
        }
    }

    private static void noActs(Due due) {
        due.sentence("LibraryDesk(): no ACTS");
        Desk x = new Desk();
        due.told(x, 0, 0, 0, 0, 0, 0, 0);
        for (int call = 0; call <= 9; call++) {
            due.is("again(" + call + ", ..)", x.again(call, call, 70 + call), 70 + call);
            due.is("call(" + call + ", ..)", x.call(call, call, 70 + call), 70 + call);
            due.is("wants(" + call + ", -1)", x.wants(call, -1), -1);
            due.is("act(" + call + ", 0, 0)", x.act(call, 0, 0), 1);
        }
    }

    private static void theRowIsEmpty(Due due) {
        due.sentence("LibraryDesk(): THE ROW is empty");
        Desk x = new Desk();
        for (int i = -1; i <= 20; i++) {
            due.noRowValue(x, i);
        }
        due.is("collect(4)", x.collect(4), 1);
        due.row(x, 4);
    }

    private static void objectsShareNothing(Due due) {
        due.sentence("LibraryDesk(): a new object, whatever others have");
        Desk used = Situation.FULL.desk();
        Desk alsoUsed = Situation.BUSY.desk();
        Desk first = new Desk();
        Desk second = new Desk();
        due.is("collect on a used one", used.collect(1), -1);
        due.is("make on a used one", alsoUsed.make(0), 4);
        due.same("one of two new ones", Probe.answers(first), Probe.answers(second));
        Desk third = new Desk();
        due.told(third, 0, 0, 0, 0, 0, 0, 0);
        due.row(third);
        due.is("numbers(5)", third.numbers(5), 0);
        due.is("call(4, 0, 3)", third.call(4, 0, 3), 3);
    }
}
