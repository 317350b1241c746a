/** Terms: a call that was told to FAIL, and when that is used up. */
public final class T08ToldToFailTest {
    public static void main(String[] args) {
        Due due = new Due("T08ToldToFailTest");
        insteadOfDoingThatOne(due);
        insteadOfTheActsOwnFailure(due);
        onceAndThenAsBefore(due);
        atAnActThatItHasNot(due);
        atTheActJustBehindTheLast(due);
        usedUpIfItWasThat(due);
        notUsedUpByAnEarlierFailure(due);
        notUsedUpByARefusedCall(due);
        notUsedUpByAnotherCall(due);
        due.end();
    }

    private static void insteadOfDoingThatOne(Due due) {
        due.sentence("If it was told to FAIL at an act, with 1 to 5, it does so instead of doing that one");
        for (int i = 0; i <= 5; i++) {
            for (int with = 1; with <= 5; with++) {
                Desk x = Desk.withSixActs();
                x.fails(0, i, with);
                due.failed(x, x.call(0, 8, 1), with, i);
                due.told(x, 0, 0, 1, with, i, 0, 8);
                for (int kind = 0; kind < 6; kind++) {
                    due.is("tally(" + kind + ")", x.tally(kind), 0);
                }
            }
        }
    }

    private static void insteadOfTheActsOwnFailure(Due due) {
        due.sentence("it does so instead of doing that one: one that would FAIL by itself too");
        Desk x = new Desk();
        x.make(0, 40);
        int[] sorts = {0, 1, 3, 6};
        int[] own = {6, 7, 8, 7};
        for (int i = 0; i < sorts.length; i++) {
            x.act(i, sorts[i], i);
            x.fails(i, 0, 4);
            due.failed(x, x.call(i, 0, 1), 4, 0);
            due.failed(x, x.call(i, 0, 1), own[i], 0);
        }
    }

    private static void onceAndThenAsBefore(Due due) {
        due.sentence("once: the next time it is as before");
        Desk x = Desk.withSixActs();
        for (int time = 1; time <= 3; time++) {
            due.is("fails(0, 3, 2)", x.fails(0, 3, 2), 1);
            due.failed(x, x.call(0, 0, 1), 2, 3);
            due.is("again, the next time", x.again(0, 0, 1), 1);
            due.is("call, the next time", x.call(0, 0, 1), 1);
            due.is("call, the time after it", x.call(0, 0, 1), 1);
            due.is("tally(5)", x.tally(5), 2 * time);
        }
    }

    private static void atAnActThatItHasNot(Due due) {
        due.sentence("one that was told to FAIL at an act that it has not is not touched by that, and stays so");
        Desk x = new Desk();
        due.is("fails(3, 5, 1) without acts", x.fails(3, 5, 1), 1);
        for (int have = 0; have < 6; have++) {
            due.is("again with " + have + " acts", x.again(3, 0, 6), 6);
            due.is("call with " + have + " acts", x.call(3, 0, 6), 6);
            due.is("call with " + have + " acts again", x.call(3, 0, 6), 6);
            x.act(3, 2, 0);
        }
        due.is("tally(0)", x.tally(0), 2 * 6 * (1 + 2 + 3 + 4 + 5));
        due.failed(x, x.call(3, 0, 6), 1, 5);
        due.is("call with 6 acts, the next time", x.call(3, 0, 6), 6);
    }

    private static void atTheActJustBehindTheLast(Due due) {
        due.sentence("at an act that it has not: the first that it has not, and the last that it has");
        for (int have = 1; have <= 5; have++) {
            Desk x = new Desk();
            for (int i = 0; i < have; i++) {
                x.act(0, 2, 0);
            }
            x.fails(0, have, 3);
            due.is("call told at act " + have + " of " + have, x.call(0, 0, 1), 1);
            x.act(0, 2, 0);
            due.failed(x, x.call(0, 0, 1), 3, have);
            x.fails(0, have, 3);
            due.failed(x, x.call(0, 0, 1), 3, have);
            due.is("tally(0)", x.tally(0), have);
        }
    }

    private static void usedUpIfItWasThat(Due due) {
        due.sentence("but what it was told to FAIL with is used up, if it was that");
        Desk x = Desk.withSixActs();
        x.fails(0, 0, 5);
        due.is("again, which uses nothing up", x.again(0, 0, 1), LibraryDesk.FAILED);
        due.is("again, which uses nothing up", x.again(0, 0, 1), LibraryDesk.FAILED);
        due.failed(x, x.call(0, 0, 1), 5, 0);
        due.is("call", x.call(0, 0, 1), 1);
        due.told(x, 1, 0, 1, 5, 0, 0, 0);
    }

    private static void notUsedUpByAnEarlierFailure(Due due) {
        due.sentence("is used up, if it was that: not by a failure of an act before it");
        Desk x = new Desk();
        x.act(0, 3, 0);
        x.act(0, 2, 0);
        x.fails(0, 1, 2);
        due.failed(x, x.call(0, 0, 1), 8, 0);
        due.failed(x, x.call(0, 0, 1), 8, 0);
        x.collect(4);
        due.failed(x, x.call(0, 0, 1), 2, 1);
        due.row(x, 4);
        due.is("call after both", x.call(0, 0, 1), 1);
        due.is("tally(0)", x.tally(0), 5);
        x.fails(0, 1, 2);
        due.failed(x, x.call(0, 0, 1), 8, 0);
    }

    private static void notUsedUpByARefusedCall(Due due) {
        due.sentence("is used up, if it was that: not by a REFUSED call");
        Desk x = Desk.withSixActs();
        x.fails(0, 0, 2);
        x.wants(0, 0);
        due.is("call that is refused", x.call(0, 1, 1), LibraryDesk.REFUSED);
        due.is("call that is refused", x.call(10, 1, 1), LibraryDesk.REFUSED);
        x.make(0);
        due.failed(x, x.call(0, 1, 1), 2, 0);
        due.is("call", x.call(0, 1, 1), 1);
    }

    private static void notUsedUpByAnotherCall(Due due) {
        due.sentence("If it was told to FAIL: one call is not another");
        Desk x = new Desk();
        for (int call = 0; call <= 9; call++) {
            x.act(call, 2, 0);
            x.fails(call, 0, 1 + call % 5);
        }
        for (int call = 9; call >= 0; call--) {
            due.failed(x, x.call(call, 0, 1), 1 + call % 5, 0);
            due.is("call, the next time", x.call(call, 0, 1), 1);
        }
    }
}
