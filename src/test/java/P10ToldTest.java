/** Promise 10: told. */
public final class P10ToldTest {
    public static void main(String[] args) {
        Due due = new Due("P10ToldTest");
        zeroWithoutOne(due);
        howMany(due);
        theLatestThatFailed(due);
        anyNumberIsTold(due);
        noneForAnotherWhat(due);
        due.end();
    }

    private static void zeroWithoutOne(Due due) {
        due.sentence("of the latest that FAILED (0 without one)");
        Desk x = new Desk();
        due.told(x, 0, 0, 0, 0, 0, 0, 0);
        x.call(5, 6, 7);
        x.call(11, 6, 7);
        due.told(x, 1, 1, 0, 0, 0, 0, 0);
    }

    private static void howMany(Due due) {
        due.sentence("What 0: how many calls were answered, 1: REFUSED, 2: FAILED");
        Desk x = new Desk();
        x.act(1, 3, 0);
        x.wants(2, 0);
        for (int time = 1; time <= 9; time++) {
            x.call(0, 0, 0);
            due.is("told(0)", x.told(0), time);
            if (time % 2 == 0) {
                x.call(2, 1, 0);
                x.call(-1, 1, 0);
                due.is("told(1)", x.told(1), time);
            }
            if (time % 3 == 0) {
                x.call(1, 0, 0);
                due.is("told(2)", x.told(2), time / 3);
            }
            x.again(0, 0, 0);
            x.again(1, 0, 0);
            x.again(2, 0, 0);
        }
        due.told(x, 9, 8, 3);
    }

    private static void theLatestThatFailed(Due due) {
        due.sentence("of the latest that FAILED 3: with what, 4: which act it was, 5: the call, 6: the number");
        Desk x = new Desk();
        x.act(9, 2, 0);
        x.act(9, 3, 0);
        x.call(9, -77, 0);
        due.told(x, 0, 0, 1, 8, 1, 9, -77);
        x.call(0, 5, 0);
        x.call(11, 6, 0);
        x.again(9, 8, 0);
        due.told(x, 1, 1, 1, 8, 1, 9, -77);
        x.act(2, 1, 0);
        x.call(2, 3, 0);
        due.told(x, 1, 1, 2, 7, 0, 2, 3);
        x.fails(9, 0, 5);
        due.told(x, 1, 1, 2, 7, 0, 2, 3);
        x.call(9, 0, 0);
        due.told(x, 1, 1, 3, 5, 0, 9, 0);
        x.make(4, 40);
        for (int i = 0; i < 5; i++) {
            x.act(0, 2, 0);
        }
        x.act(0, 0, 4);
        x.call(0, 1, 0);
        due.told(x, 1, 1, 4, 6, 5, 0, 1);
    }

    private static void anyNumberIsTold(Due due) {
        due.sentence("6: the number with which it was called");
        Desk x = new Desk();
        x.act(0, 3, 0);
        for (int number : Outside.NUMBERS) {
            x.call(0, number, 0);
            due.is("told(6)", x.told(6), number);
        }
    }

    private static void noneForAnotherWhat(Due due) {
        due.sentence("NONE for another what");
        for (Situation situation : Situation.values()) {
            Desk x = situation.desk();
            for (int what : Outside.WHATS) {
                due.is(situation + ": told(" + what + ")", x.told(what), LibraryDesk.NONE);
            }
        }
    }
}
