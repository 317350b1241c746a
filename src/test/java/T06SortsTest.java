/** Terms: what each sort of ACT does, and what it FAILS with, on both sides of where it begins to. */
public final class T06SortsTest {
    public static void main(String[] args) {
        Due due = new Due("T06SortsTest");
        makes(due);
        makeFailsWith6(due);
        makeFailsAtTheActThatIsTooMany(due);
        dropsTheGreatest(due);
        dropOfTheGreatestFailsWith7(due);
        growsByA(due);
        takesTheFirstValue(due);
        takingFailsWith8(due);
        answersWithTheTally(due);
        answersWithTheNumbersHere(due);
        dropsTheCalled(due);
        kindDoesNotMatter(due);
        dropOfTheCalledFailsWith7(due);
        dropFailsIfTheCallWantsNone(due);
        due.end();
    }

    private static void makes(Due due) {
        due.sentence("0 a number of the KIND is made");
        Desk x = new Desk();
        x.act(0, 0, 1);
        for (int number = 1; number <= 40; number++) {
            due.is("call that makes one", x.call(0, 0, 3), 3);
            due.is("here(1, " + number + ")", x.here(1, number), true);
            due.is("numbers(1)", x.numbers(1), number);
        }
        due.is("numbers(0)", x.numbers(0), 0);
    }

    private static void makeFailsWith6(Due due) {
        due.sentence("0 ..; it FAILS with 6 if there are 40.");
        Desk x = new Desk();
        x.act(0, 0, 1);
        x.make(1, 39);
        due.is("call with 39 there", x.call(0, 0, 3), 3);
        due.failed(x, x.call(0, 0, 3), 6, 0);
        x.drop(1, 40);
        x.drop(1, 7);
        due.is("numbers(1)", x.numbers(1), 38);
        due.failed(x, x.call(0, 0, 3), 6, 0);
        due.is("numbers(1) as before", x.numbers(1), 38);
        due.is("here(1, 40)", x.here(1, 40), false);
    }

    private static void makeFailsAtTheActThatIsTooMany(Due due) {
        due.sentence("0 ..; it FAILS with 6 if there are 40: those that the same call made too");
        for (int room = 0; room <= 6; room++) {
            Desk x = new Desk();
            x.make(4, 40 - room);
            for (int i = 0; i < 6; i++) {
                x.act(2, 0, 4);
            }
            long answer = x.call(2, 0, 8);
            if (room == 6) {
                due.is("call with room for six", answer, 8);
                due.is("numbers(4)", x.numbers(4), 40);
            } else {
                due.failed(x, answer, 6, room);
                due.is("numbers(4)", x.numbers(4), 40 - room);
                due.is("make(4)", x.make(4), room == 0 ? -1 : 41 - room);
            }
        }
    }

    private static void dropsTheGreatest(Due due) {
        due.sentence("1 the greatest number of the KIND that is HERE is dropped");
        Desk x = new Desk();
        x.act(0, 1, 2);
        x.make(2, 40);
        x.make(3, 40);
        x.drop(2, 39);
        x.drop(2, 1);
        int[] greatest = {40, 38, 37};
        for (int number : greatest) {
            due.is("here(2, " + number + ")", x.here(2, number), true);
            due.is("call that drops it", x.call(0, 5, 3), 3);
            due.is("here(2, " + number + ") then", x.here(2, number), false);
            due.is("here(2, 5), with which it was called", x.here(2, 5), true);
        }
        due.is("numbers(2)", x.numbers(2), 35);
        due.is("numbers(3)", x.numbers(3), 40);
    }

    private static void dropOfTheGreatestFailsWith7(Due due) {
        due.sentence("1 ..; it FAILS with 7 if none is.");
        Desk x = new Desk();
        x.act(0, 1, 2);
        due.failed(x, x.call(0, 0, 3), 7, 0);
        due.is("make(2), after it failed with none made", x.make(2), 1);
        due.is("call with one here", x.call(0, 0, 3), 3);
        due.is("here(2, 1)", x.here(2, 1), false);
        due.failed(x, x.call(0, 0, 3), 7, 0);
        due.is("make(2), after it failed with all dropped", x.make(2), 2);
        x.act(0, 1, 2);
        due.failed(x, x.call(0, 0, 3), 7, 1);
        due.is("here(2, 2) as before", x.here(2, 2), true);
        due.is("make(2)", x.make(2), 3);
        due.is("call with two here and two acts", x.call(0, 0, 3), 3);
        due.is("numbers(2)", x.numbers(2), 0);
    }

    private static void growsByA(Due due) {
        due.sentence("2 the KIND's TALLY grows by a.");
        Desk x = new Desk();
        x.act(0, 2, 7);
        due.is("call", x.call(0, 0, 0), 0);
        due.is("tally(7) by 0", x.tally(7), 0);
        due.is("call", x.call(0, 0, -4), -4);
        due.is("tally(7) by -4", x.tally(7), -4);
        due.is("call", x.call(0, 0, 10), 10);
        due.is("tally(7) by 10", x.tally(7), 6);
        x.act(1, 5, 0);
        x.act(1, 2, 0);
        x.act(1, 2, 0);
        due.is("call", x.call(1, 0, 2), 62);
        due.is("tally(0) by a twice, not by THE ANSWER", x.tally(0), 4);
    }

    private static void takesTheFirstValue(Due due) {
        due.sentence("3 the first value of THE ROW is taken out of it, and the KIND's TALLY grows by it");
        Desk x = new Desk();
        x.act(0, 3, 3);
        x.act(1, 3, 4);
        x.collect(10);
        x.collect(-3);
        x.collect(7);
        due.is("call", x.call(0, 0, 100), 100);
        due.row(x, -3, 7);
        due.is("tally(3)", x.tally(3), 10);
        due.is("call", x.call(1, 0, 100), 100);
        due.row(x, 7);
        due.is("tally(4)", x.tally(4), -3);
        due.is("call", x.call(0, 0, 100), 100);
        due.row(x);
        due.is("tally(3)", x.tally(3), 17);
        Desk full = new Desk();
        full.act(0, 3, 0);
        full.collect(1, 20);
        due.is("call on a full row", full.call(0, 0, 0), 0);
        due.row(full, 2, 3, 4, 5, 6, 7, 8, 9, 10, 11, 12, 13, 14, 15, 16, 17, 18, 19, 20);
    }

    private static void takingFailsWith8(Due due) {
        due.sentence("3 ..; it FAILS with 8 if THE ROW is empty.");
        Desk x = new Desk();
        x.act(0, 3, 3);
        due.failed(x, x.call(0, 0, 6), 8, 0);
        due.is("tally(3)", x.tally(3), 0);
        x.collect(0);
        due.is("call with one value, a 0", x.call(0, 0, 6), 6);
        due.failed(x, x.call(0, 0, 6), 8, 0);
        x.act(0, 3, 3);
        x.collect(5);
        due.failed(x, x.call(0, 0, 6), 8, 1);
        due.row(x, 5);
        due.is("tally(3) as before", x.tally(3), 0);
        due.is("collect after it failed", x.collect(6), 2);
        due.is("call with two values and two acts", x.call(0, 0, 6), 6);
        due.is("tally(3)", x.tally(3), 11);
        due.row(x);
    }

    private static void answersWithTheTally(Due due) {
        due.sentence("4 THE ANSWER becomes 31 times itself and the KIND's TALLY.");
        Desk x = new Desk();
        x.act(0, 4, 6);
        due.is("with a tally of 0", x.call(0, 0, 2), 62);
        x.act(1, 2, 6);
        x.call(1, 0, 100);
        due.is("with a tally of 100", x.call(0, 0, 2), 162);
        due.is("from 0 on", x.call(0, 0, 0), 100);
        due.is("from -4 on", x.call(0, 0, -4), -24);
        due.is("tally(6)", x.tally(6), 100);
    }

    private static void answersWithTheNumbersHere(Due due) {
        due.sentence("5 THE ANSWER becomes 31 times itself and how many numbers of the KIND are HERE.");
        Desk x = new Desk();
        x.act(0, 5, 6);
        due.is("with none made", x.call(0, 0, 2), 62);
        x.make(6, 40);
        due.is("with 40 here", x.call(0, 0, 2), 102);
        x.drop(6, 1);
        x.drop(6, 40);
        due.is("with 38 here of 40", x.call(0, 0, 2), 100);
        due.is("numbers(6)", x.numbers(6), 38);
    }

    private static void dropsTheCalled(Due due) {
        due.sentence("6 the number with which it was called is dropped");
        int[] numbers = {1, 2, 20, 40};
        for (int number : numbers) {
            Desk x = new Desk();
            x.make(1, 40);
            x.wants(0, 1);
            x.act(0, 6, 1);
            due.is("call(0, " + number + ", 4)", x.call(0, number, 4), 4);
            due.is("here(1, " + number + ")", x.here(1, number), false);
            due.is("numbers(1)", x.numbers(1), 39);
            due.is("call with it again", x.call(0, number, 4), LibraryDesk.REFUSED);
        }
    }

    private static void kindDoesNotMatter(Due due) {
        due.sentence("6 .. (the KIND does not matter)");
        for (int kind = 0; kind <= 7; kind++) {
            Desk x = new Desk();
            x.make(1, 3);
            x.make(kind, 3);
            x.wants(0, 1);
            x.act(0, 6, kind);
            due.is("call", x.call(0, 2, 4), 4);
            due.is("here(1, 2)", x.here(1, 2), false);
            if (kind != 1) {
                due.is("here(" + kind + ", 2)", x.here(kind, 2), true);
            }
        }
        Desk x = new Desk();
        for (int kind : Outside.KINDS) {
            due.is("but there must be such a KIND: act", x.act(0, 6, kind), -1);
        }
    }

    private static void dropOfTheCalledFailsWith7(Due due) {
        due.sentence("6 ..; it FAILS with 7 if it is not HERE any more");
        Desk x = new Desk();
        x.make(1, 2);
        x.wants(0, 1);
        x.act(0, 6, 5);
        x.act(0, 6, 5);
        due.failed(x, x.call(0, 2, 4), 7, 1);
        due.is("here(1, 2) as before", x.here(1, 2), true);
        x.wants(3, 1);
        x.act(3, 1, 1);
        x.act(3, 6, 0);
        due.failed(x, x.call(3, 2, 4), 7, 1);
        due.is("here(1, 2) as before", x.here(1, 2), true);
        due.is("call with one that is not the greatest", x.call(3, 1, 4), 4);
        due.is("numbers(1)", x.numbers(1), 0);
    }

    private static void dropFailsIfTheCallWantsNone(Due due) {
        due.sentence("6 ..; it FAILS with 7 if .. the call wants none.");
        Desk x = new Desk();
        for (int kind = 0; kind <= 7; kind++) {
            x.make(kind, 2);
        }
        x.act(0, 6, 0);
        due.failed(x, x.call(0, 1, 4), 7, 0);
        x.wants(0, 3);
        due.is("call that wants kind 3", x.call(0, 1, 4), 4);
        due.is("here(3, 1)", x.here(3, 1), false);
        x.wants(0, -1);
        due.failed(x, x.call(0, 2, 4), 7, 0);
        for (int kind = 0; kind <= 7; kind++) {
            due.is("here(" + kind + ", 2)", x.here(kind, 2), true);
        }
    }
}
