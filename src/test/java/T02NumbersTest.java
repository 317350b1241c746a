/** Terms: the NUMBERS of a KIND, their most and their order, and that one is given once. */
public final class T02NumbersTest {
    public static void main(String[] args) {
        Due due = new Due("T02NumbersTest");
        fortyAreMadeInOrder(due);
        noFortyFirst(due);
        madeByTurns(due);
        fullIsOfOneKind(due);
        hereTillDropped(due);
        neverMadeAgain(due);
        neverMadeAgainWhenAllWereDropped(due);
        due.end();
    }

    private static void fortyAreMadeInOrder(Due due) {
        due.sentence("NUMBERS, 1, 2, .., 40 at most, in the order in which they are made");
        for (int kind = 0; kind <= 7; kind++) {
            Desk x = new Desk();
            for (int number = 1; number <= 40; number++) {
                due.is("here(" + kind + ", " + number + ") before", x.here(kind, number), false);
                due.is("make(" + kind + ")", x.make(kind), number);
                due.is("here(" + kind + ", " + number + ")", x.here(kind, number), true);
                due.is("numbers(" + kind + ")", x.numbers(kind), number);
            }
        }
    }

    private static void noFortyFirst(Due due) {
        due.sentence("40 at most");
        Desk x = new Desk();
        x.make(3, 39);
        due.is("make of the 40th", x.make(3), 40);
        due.is("make of a 41st", x.make(3), -1);
        due.is("make of a 41st, asked again", x.make(3), -1);
        due.is("numbers(3)", x.numbers(3), 40);
        due.is("here(3, 40)", x.here(3, 40), true);
        due.is("here(3, 41)", x.here(3, 41), false);
        due.is("here(3, 0)", x.here(3, 0), false);
    }

    private static void madeByTurns(Due due) {
        due.sentence("in the order in which they are made, by make() and by ACTS");
        Desk x = new Desk();
        x.act(0, 0, 6);
        for (int number = 1; number <= 39; number += 2) {
            due.is("make(6)", x.make(6), number);
            due.is("call that makes one", x.call(0, 0, 8), 8);
            due.is("here(6, " + (number + 1) + ")", x.here(6, number + 1), true);
        }
        due.is("make of a 41st", x.make(6), -1);
        due.failed(x, x.call(0, 0, 8), 6, 0);
    }

    private static void fullIsOfOneKind(Due due) {
        due.sentence("Of each there are 40 at most");
        Desk x = new Desk();
        for (int kind = 0; kind <= 7; kind++) {
            x.make(kind, 40);
            due.is("make(" + kind + ") of a 41st", x.make(kind), -1);
            if (kind < 7) {
                due.is("numbers of the next kind", x.numbers(kind + 1), 0);
            }
        }
        for (int kind = 0; kind <= 7; kind++) {
            due.is("numbers(" + kind + ")", x.numbers(kind), 40);
        }
    }

    private static void hereTillDropped(Due due) {
        due.sentence("one is HERE till it is dropped");
        int[] numbers = {1, 2, 31, 32, 33, 39, 40};
        for (int number : numbers) {
            Desk x = new Desk();
            x.make(2, 40);
            due.is("here before", x.here(2, number), true);
            due.is("drop(2, " + number + ")", x.drop(2, number), true);
            for (int other = 1; other <= 40; other++) {
                due.is("here(2, " + other + ") without " + number, x.here(2, other), other != number);
            }
            due.is("drop of it again", x.drop(2, number), false);
            due.is("numbers(2)", x.numbers(2), 39);
        }
    }

    private static void neverMadeAgain(Due due) {
        due.sentence("and is never made again");
        Desk x = new Desk();
        x.wants(0, 4);
        x.act(0, 6, 0);
        x.act(1, 1, 4);
        x.act(2, 0, 4);
        due.is("make(4)", x.make(4), 1);
        x.drop(4, 1);
        due.is("make after a drop of the only one", x.make(4), 2);
        x.call(0, 2, 0);
        due.is("make after a call dropped the latest", x.make(4), 3);
        x.call(1, 0, 0);
        due.is("here(4, 3), dropped as the greatest", x.here(4, 3), false);
        x.call(2, 0, 0);
        due.is("here(4, 3), which no act makes again", x.here(4, 3), false);
        due.is("here(4, 4), made by an act", x.here(4, 4), true);
        due.is("numbers(4)", x.numbers(4), 1);
    }

    private static void neverMadeAgainWhenAllWereDropped(Due due) {
        due.sentence("40 at most, and one is never made again");
        Desk x = new Desk();
        x.act(0, 0, 1);
        for (int number = 1; number <= 40; number++) {
            due.is("make(1)", x.make(1), number);
            x.drop(1, number);
        }
        due.is("numbers(1)", x.numbers(1), 0);
        due.is("make when 40 were made and dropped", x.make(1), -1);
        due.failed(x, x.call(0, 0, 1), 6, 0);
        due.is("numbers(1) then", x.numbers(1), 0);
    }
}
