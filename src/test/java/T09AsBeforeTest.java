/** Terms: if an act FAILS, all is as it was before the call. */
public final class T09AsBeforeTest {
    private static final int NOT_TOLD = -1;

    public static void main(String[] args) {
        Due due = new Due("T09AsBeforeTest");
        allIsAsBeforeWhenTold(due);
        allIsAsBeforeByItself(due);
        numbersAreMadeAgain(due);
        droppedNumbersAreHere(due);
        talliesAreAsBefore(due);
        theRowIsAsBefore(due);
        failuresInARow(due);
        whatWasAnsweredBeforeStays(due);
        due.end();
    }

    /** Call 0, with 1 of kind 0, makes, drops, grows, takes the only value, drops the called; then its last act. */
    private static Desk changing(int lastSort, int lastKind, int toldAct, int toldWith) {
        Desk x = new Desk();
        x.make(0, 3);
        x.make(1, 2);
        x.make(7, 40);
        x.collect(77);
        x.wants(0, 0);
        x.act(0, 0, 1);
        x.act(0, 1, 0);
        x.act(0, 2, 2);
        x.act(0, 3, 3);
        x.act(0, 6, 4);
        x.act(0, lastSort, lastKind);
        x.act(1, 0, 1);
        x.act(1, 5, 1);
        if (toldAct != NOT_TOLD) {
            x.fails(0, toldAct, toldWith);
        }
        return x;
    }

    private static void allIsAsBeforeWhenTold(Due due) {
        due.sentence("If an act FAILS, all is as it was before the call .. told to FAIL with is used up");
        for (int act = 0; act <= 5; act++) {
            for (int with = 1; with <= 5; with++) {
                Desk x = changing(2, 6, act, with);
                due.failed(x, x.call(0, 1, 5), with, act);
                due.same("told to fail with " + with + " at " + act + ", and then",
                        Probe.answers(x), Probe.answers(changing(2, 6, NOT_TOLD, 0)));
            }
        }
    }

    private static void allIsAsBeforeByItself(Due due) {
        due.sentence("If an act FAILS, all is as it was before the call");
        byItself(due, 0, 7, 6);
        byItself(due, 1, 6, 7);
        byItself(due, 6, 0, 7);
        byItself(due, 3, 5, 8);
    }

    private static void byItself(Due due, int lastSort, int lastKind, int with) {
        Desk x = changing(lastSort, lastKind, NOT_TOLD, 0);
        due.failed(x, x.call(0, 1, 5), with, 5);
        due.same("failed with " + with + ", and then",
                Probe.answers(x), Probe.answers(changing(lastSort, lastKind, NOT_TOLD, 0)));
    }

    private static void numbersAreMadeAgain(Due due) {
        due.sentence("numbers (those made then are made again later)");
        Desk x = new Desk();
        x.make(2, 37);
        for (int i = 0; i < 4; i++) {
            x.act(0, 0, 2);
        }
        due.failed(x, x.call(0, 0, 1), 6, 3);
        due.is("numbers(2)", x.numbers(2), 37);
        for (int number = 38; number <= 40; number++) {
            due.is("here(2, " + number + ") before", x.here(2, number), false);
            due.is("make(2)", x.make(2), number);
            due.is("here(2, " + number + ")", x.here(2, number), true);
        }
        due.is("make(2) of a 41st", x.make(2), -1);
    }

    private static void droppedNumbersAreHere(Due due) {
        due.sentence("all is as it was before the call: numbers");
        Desk x = new Desk();
        x.make(2, 3);
        x.drop(2, 2);
        x.wants(0, 2);
        x.act(0, 1, 2);
        x.act(0, 6, 2);
        x.act(0, 1, 2);
        due.failed(x, x.call(0, 1, 1), 7, 2);
        due.is("here(2, 1), dropped as the called", x.here(2, 1), true);
        due.is("here(2, 2), dropped before", x.here(2, 2), false);
        due.is("here(2, 3), dropped as the greatest", x.here(2, 3), true);
        due.is("numbers(2)", x.numbers(2), 2);
        due.is("make(2)", x.make(2), 4);
    }

    private static void talliesAreAsBefore(Due due) {
        due.sentence("all is as it was before the call: .. TALLIES");
        Desk x = new Desk();
        for (int kind = 0; kind <= 4; kind++) {
            x.act(0, 2, kind);
        }
        x.call(0, 0, 12);
        x.act(0, 3, 7);
        due.failed(x, x.call(0, 0, Long.MAX_VALUE), 8, 5);
        for (int kind = 0; kind <= 7; kind++) {
            due.is("tally(" + kind + ")", x.tally(kind), kind <= 4 ? 12 : 0);
        }
    }

    private static void theRowIsAsBefore(Due due) {
        due.sentence("all is as it was before the call: .. THE ROW");
        Desk x = new Desk();
        for (int i = 0; i < 6; i++) {
            x.act(0, 3, 7);
        }
        x.collect(1, 5);
        due.failed(x, x.call(0, 0, 0), 8, 5);
        due.row(x, 1, 2, 3, 4, 5);
        due.is("tally(7)", x.tally(7), 0);
        due.is("collect", x.collect(6), 6);
        due.is("call with six values", x.call(0, 0, 0), 0);
        due.row(x);
        due.is("tally(7)", x.tally(7), 21);
        x.collect(30, 20);
        x.fails(0, 5, 1);
        due.failed(x, x.call(0, 0, 0), 1, 5);
        due.is("collect, the row being full as before", x.collect(1), -1);
        due.rowValue(x, 0, 30);
        due.rowValue(x, 19, 49);
    }

    private static void failuresInARow(Due due) {
        due.sentence("all is as it was before the call, as often as it FAILS");
        Desk x = changing(3, 5, NOT_TOLD, 0);
        for (int time = 1; time <= 20; time++) {
            due.failed(x, x.call(0, 1, 5), 8, 5);
            due.is("told(2)", x.told(2), time);
        }
        due.same("failed 20 times, and then", Probe.answers(x), Probe.answers(changing(3, 5, NOT_TOLD, 0)));
    }

    private static void whatWasAnsweredBeforeStays(Due due) {
        due.sentence("as it was before the call: not as it was before an earlier one");
        Desk x = new Desk();
        x.act(0, 0, 0);
        x.act(0, 2, 1);
        for (int time = 1; time <= 10; time++) {
            due.is("call", x.call(0, 0, 3), 3);
            x.fails(0, 1, 1);
            due.failed(x, x.call(0, 0, 3), 1, 1);
            due.is("numbers(0)", x.numbers(0), time);
            due.is("tally(1)", x.tally(1), 3 * time);
        }
    }
}
