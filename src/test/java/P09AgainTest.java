/** Promise 9: again. */
public final class P09AgainTest {
    public static void main(String[] args) {
        Due due = new Due("P09AgainTest");
        whatCallWouldAnswer(due);
        refused(due);
        nothingIsChanged(due);
        nothingIsUsedUpNorTold(due);
        due.end();
    }

    private static void whatCallWouldAnswer(Due due) {
        due.sentence("What call() would answer now");
        for (Situation situation : Situation.values()) {
            for (int call = -1; call <= 10; call++) {
                for (int number = 0; number <= 3; number++) {
                    Desk x = situation.desk();
                    long would = x.again(call, number, 9);
                    due.is(situation + ": call(" + call + ", " + number + ", 9) after again",
                            x.call(call, number, 9), would);
                    due.is(situation + ": again, then call on another", situation.desk().call(call, number, 9), would);
                }
            }
        }
    }

    private static void refused(Due due) {
        due.sentence("What call() would answer now: REFUSED");
        Desk x = new Desk();
        x.make(3);
        x.wants(2, 3);
        for (int call : Outside.CALLS) {
            due.is("again(" + call + ", 1, 4)", x.again(call, 1, 4), LibraryDesk.REFUSED);
        }
        for (int number : Outside.NUMBERS) {
            due.is("again(2, " + number + ", 4)", x.again(2, number, 4), LibraryDesk.REFUSED);
        }
        due.is("again(2, 2, 4), not made yet", x.again(2, 2, 4), LibraryDesk.REFUSED);
        due.is("again(2, 1, 4)", x.again(2, 1, 4), 4);
        x.drop(3, 1);
        due.is("again(2, 1, 4), dropped", x.again(2, 1, 4), LibraryDesk.REFUSED);
        due.told(x, 0, 0, 0, 0, 0, 0, 0);
    }

    private static void nothingIsChanged(Due due) {
        due.sentence("nothing is changed by it");
        for (Situation situation : Situation.values()) {
            Desk x = situation.desk();
            for (int call = -1; call <= 10; call++) {
                x.again(call, 1, 9);
                x.again(call, 3, -9);
                x.again(call, 41, 9);
            }
            due.same(situation + ", and then", Probe.answers(x), Probe.answers(situation.desk()));
        }
        Desk x = new Desk();
        x.make(0);
        x.make(1);
        x.collect(7);
        x.wants(0, 0);
        x.act(0, 0, 1);
        x.act(0, 2, 2);
        x.act(0, 3, 2);
        x.act(0, 4, 2);
        x.act(0, 5, 1);
        x.act(0, 6, 0);
        long would = (31L * 5 + 12) * 31 + 2;
        for (int time = 0; time < 3; time++) {
            due.is("again", x.again(0, 1, 5), would);
            due.is("numbers(1)", x.numbers(1), 1);
            due.is("here(0, 1)", x.here(0, 1), true);
            due.is("tally(2)", x.tally(2), 0);
            due.row(x, 7);
        }
        due.is("call", x.call(0, 1, 5), would);
        due.is("make(1)", x.make(1), 3);
    }

    private static void nothingIsUsedUpNorTold(Due due) {
        due.sentence("nothing is changed by it: what was told to FAIL, and what is told");
        Desk x = new Desk();
        x.act(1, 2, 0);
        x.act(2, 3, 0);
        x.fails(1, 0, 3);
        due.failed(x, x.call(2, 44, 0), 8, 0);
        due.is("again that fails as told", x.again(1, 55, 0), LibraryDesk.FAILED);
        due.is("again that fails by itself", x.again(2, 56, 0), LibraryDesk.FAILED);
        due.is("again that is refused", x.again(10, 57, 0), LibraryDesk.REFUSED);
        due.is("again that is answered", x.again(3, 58, 6), 6);
        due.told(x, 0, 0, 1, 8, 0, 2, 44);
        due.failed(x, x.call(1, 55, 0), 3, 0);
        due.is("again, used up now", x.again(1, 55, 9), 9);
        due.is("tally(0)", x.tally(0), 0);
        due.told(x, 0, 0, 2, 3, 0, 1, 55);
    }
}
