/** Terms: TO CALL, when it is REFUSED, and what is answered. */
public final class T07ToCallTest {
    public static void main(String[] args) {
        Due due = new Due("T07ToCallTest");
        refusedWithoutSuchACall(due);
        refusedIfTheNumberIsNotHere(due);
        refusedByTheWantedKindAlone(due);
        anyNumberIfItWantsNone(due);
        answersAWithoutActs(due);
        actsAreDoneInOrder(due);
        anActMayDropWhatWasWanted(due);
        due.end();
    }

    private static void refusedWithoutSuchACall(Due due) {
        due.sentence("it is REFUSED if there is no such call");
        Desk x = new Desk();
        int refused = 0;
        for (int call : Outside.CALLS) {
            due.is("call(" + call + ", 1, 2)", x.call(call, 1, 2), LibraryDesk.REFUSED);
            refused++;
            due.is("told(1)", x.told(1), refused);
        }
        due.is("call(0, 1, 2)", x.call(0, 1, 2), 2);
        due.is("call(9, 1, 2)", x.call(9, 1, 2), 2);
        due.told(x, 2, refused, 0, 0, 0, 0, 0);
    }

    private static void refusedIfTheNumberIsNotHere(Due due) {
        due.sentence("or it wants a KIND of which that number is not HERE");
        Desk x = new Desk();
        x.act(0, 2, 0);
        x.wants(0, 5);
        due.is("call with 1 before it is made", x.call(0, 1, 1), LibraryDesk.REFUSED);
        x.make(5, 40);
        x.drop(5, 2);
        for (int number = 1; number <= 40; number++) {
            due.is("call(0, " + number + ", 1)", x.call(0, number, 1), number == 2 ? LibraryDesk.REFUSED : 1);
        }
        for (int number : Outside.NUMBERS) {
            due.is("call(0, " + number + ", 1)", x.call(0, number, 1), LibraryDesk.REFUSED);
        }
        due.is("tally(0), by those that were not refused", x.tally(0), 39);
        due.is("told(1)", x.told(1), 2 + Outside.NUMBERS.length);
    }

    private static void refusedByTheWantedKindAlone(Due due) {
        due.sentence("it wants a KIND of which that number is not HERE: of that KIND, and not at an ACT's");
        Desk x = new Desk();
        x.make(6, 2);
        x.make(7);
        x.act(0, 2, 6);
        x.wants(0, 7);
        due.is("call with 2, here of kind 6 alone", x.call(0, 2, 1), LibraryDesk.REFUSED);
        due.is("call with 1", x.call(0, 1, 1), 1);
        x.wants(0, 6);
        due.is("call with 2 that wants kind 6", x.call(0, 2, 1), 1);
        x.drop(6, 2);
        due.is("call with 2, dropped", x.call(0, 2, 1), LibraryDesk.REFUSED);
        due.is("another call with 2", x.call(1, 2, 1), 1);
        x.wants(0, -1);
        due.is("call with 2 that wants none", x.call(0, 2, 1), 1);
    }

    private static void anyNumberIfItWantsNone(Due due) {
        due.sentence("REFUSED if it wants a KIND ..: a call that wants none takes any number");
        Desk x = new Desk();
        for (int number : Outside.NUMBERS) {
            due.is("call(4, " + number + ", 12)", x.call(4, number, 12), 12);
        }
        due.told(x, Outside.NUMBERS.length, 0, 0);
    }

    private static void answersAWithoutActs(Due due) {
        due.sentence("THE ANSWER being a at first; that is answered");
        Desk x = new Desk();
        long[] as = {0, 1, -1, Long.MAX_VALUE, Long.MIN_VALUE, 1L << 32, LibraryDesk.FAILED, LibraryDesk.REFUSED};
        for (long a : as) {
            due.is("call(0, 0, " + a + ")", x.call(0, 0, a), a);
            due.is("again(0, 0, " + a + ")", x.again(0, 0, a), a);
        }
        due.told(x, as.length, 0, 0, 0, 0, 0, 0);
    }

    private static void actsAreDoneInOrder(Due due) {
        due.sentence("its ACTS are done in order");
        Desk x = new Desk();
        x.wants(0, 0);
        x.make(0);
        x.collect(9);
        x.act(0, 5, 0);
        x.act(0, 6, 0);
        x.act(0, 5, 0);
        x.act(0, 3, 1);
        x.act(0, 2, 1);
        x.act(0, 4, 1);
        due.is("call", x.call(0, 1, 2), ((2 * 31 + 1) * 31) * 31 + 11);
        due.is("tally(1)", x.tally(1), 11);
        due.row(x);
    }

    /** The number must be HERE when it is called, not later. */
    private static void anActMayDropWhatWasWanted(Due due) {
        due.sentence("REFUSED .. Else its ACTS are done");
        Desk x = new Desk();
        x.wants(0, 0);
        x.make(0);
        x.act(0, 1, 0);
        x.act(0, 0, 0);
        due.is("call whose acts drop 1 and make 2", x.call(0, 1, 5), 5);
        due.is("here(0, 1)", x.here(0, 1), false);
        due.is("call with 1 then", x.call(0, 1, 5), LibraryDesk.REFUSED);
        due.is("call with 2", x.call(0, 2, 5), 5);
        due.is("here(0, 3)", x.here(0, 3), true);
    }
}
