/** Terms: "THE ROW has values that are collected, 20 at most, in order." */
public final class T04RowTest {
    public static void main(String[] args) {
        Due due = new Due("T04RowTest");
        twentyInOrder(due);
        equalValuesAreValuesTwice(due);
        takenAndCollectedByTurns(due);
        due.end();
    }

    private static void twentyInOrder(Due due) {
        due.sentence("THE ROW has values that are collected, 20 at most, in order.");
        Desk x = new Desk();
        for (int have = 0; have < 20; have++) {
            due.is("collect", x.collect(300 - have), have + 1);
        }
        due.is("collect of a 21st", x.collect(7), -1);
        for (int i = 0; i < 20; i++) {
            due.rowValue(x, i, 300 - i);
        }
        due.noRowValue(x, 20);
    }

    private static void equalValuesAreValuesTwice(Due due) {
        due.sentence("values that are collected: equal ones and 0 too");
        Desk x = new Desk();
        due.is("collect(0)", x.collect(0), 1);
        due.is("collect(0)", x.collect(0), 2);
        due.is("collect(-1)", x.collect(-1), 3);
        due.is("collect(-1)", x.collect(-1), 4);
        due.row(x, 0, 0, -1, -1);
    }

    /** Passes the 20th place often, so that a row kept in a ring would show its seam. */
    private static void takenAndCollectedByTurns(Due due) {
        due.sentence("20 at most, in order, after values were taken");
        Desk x = new Desk();
        x.act(0, 3, 0);
        x.collect(0, 20);
        long sum = 0;
        for (int turn = 0; turn < 45; turn++) {
            due.is("collect when full", x.collect(-5), -1);
            x.call(0, 0, 0);
            sum += turn;
            due.is("tally(0)", x.tally(0), sum);
            due.is("collect in its place", x.collect(20 + turn), 20);
            due.rowValue(x, 0, turn + 1);
            due.rowValue(x, 19, turn + 20);
        }
    }
}
