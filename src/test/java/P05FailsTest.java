/** Promise 5: fails. */
public final class P05FailsTest {
    public static void main(String[] args) {
        Due due = new Due("P05FailsTest");
        eachActWithEach(due);
        inPlaceOfWhatWasTold(due);
        noSuchCall(due);
        noSuchAct(due);
        noSuchWith(due);
        actsThatItHasNot(due);
        due.end();
    }

    private static void eachActWithEach(Due due) {
        due.sentence("A call is to FAIL at its i-th ACT, from 0 on, 0 .. 5, with 1 .. 5: 1");
        Desk x = Desk.withSixActs();
        for (int i = 0; i <= 5; i++) {
            for (int with = 1; with <= 5; with++) {
                due.is("fails(0, " + i + ", " + with + ")", x.fails(0, i, with), 1);
                due.failed(x, x.call(0, 0, 1), with, i);
                due.is("call, the next time", x.call(0, 0, 1), 1);
            }
        }
        due.is("tally(5)", x.tally(5), 30);
    }

    private static void inPlaceOfWhatWasTold(Due due) {
        due.sentence("in place of what was told before");
        for (int i = 0; i <= 5; i++) {
            for (int later = 0; later <= 5; later++) {
                Desk x = Desk.withSixActs();
                due.is("fails", x.fails(0, i, 1), 1);
                due.is("fails anew", x.fails(0, later, 2), 1);
                due.failed(x, x.call(0, 0, 1), 2, later);
                due.is("call, nothing being left of the first", x.call(0, 0, 1), 1);
            }
        }
        Desk x = Desk.withSixActs();
        x.act(1, 2, 0);
        x.fails(0, 3, 5);
        due.is("fails of another call", x.fails(1, 0, 4), 1);
        due.failed(x, x.call(0, 0, 1), 5, 3);
        due.failed(x, x.call(1, 0, 1), 4, 0);
    }

    /** What was told before must hold after one that can't be. */
    private static void stillTold(Due due, Desk x) {
        due.failed(x, x.call(0, 0, 1), 3, 2);
        due.is("call, the next time", x.call(0, 0, 1), 1);
    }

    private static void noSuchCall(Due due) {
        due.sentence("0 if one of these can't be: a call");
        Desk x = Desk.withSixActs();
        x.fails(0, 2, 3);
        for (int call : Outside.CALLS) {
            due.is("fails(" + call + ", 0, 1)", x.fails(call, 0, 1), 0);
        }
        stillTold(due, x);
    }

    private static void noSuchAct(Due due) {
        due.sentence("0 if one of these can't be: an ACT, 0 .. 5");
        Desk x = Desk.withSixActs();
        x.fails(0, 2, 3);
        for (int i : Outside.ACTS) {
            due.is("fails(0, " + i + ", 1)", x.fails(0, i, 1), 0);
        }
        stillTold(due, x);
        due.is("fails(0, 6, 1) with nothing told", x.fails(0, 6, 1), 0);
        due.is("fails(0, -1, 1) with nothing told", x.fails(0, -1, 1), 0);
        due.is("call", x.call(0, 0, 1), 1);
    }

    private static void noSuchWith(Due due) {
        due.sentence("0 if one of these can't be: with 1 .. 5");
        Desk x = Desk.withSixActs();
        x.fails(0, 2, 3);
        for (int with : Outside.WITHS) {
            due.is("fails(0, 0, " + with + ")", x.fails(0, 0, with), 0);
            due.is("fails(0, 2, " + with + ")", x.fails(0, 2, with), 0);
        }
        stillTold(due, x);
        due.is("fails(0, 0, 0) with nothing told", x.fails(0, 0, 0), 0);
        due.is("fails(0, 0, 6) with nothing told", x.fails(0, 0, 6), 0);
        due.is("call", x.call(0, 0, 1), 1);
    }

    private static void actsThatItHasNot(Due due) {
        due.sentence("at its i-th ACT, 0 .. 5: also if it has not so many yet");
        Desk x = new Desk();
        for (int i = 0; i <= 5; i++) {
            due.is("fails(7, " + i + ", 1) without acts", x.fails(7, i, 1), 1);
        }
        due.is("call without acts", x.call(7, 0, 4), 4);
        for (int i = 0; i < 6; i++) {
            x.act(7, 2, 0);
        }
        due.failed(x, x.call(7, 0, 4), 1, 5);
    }
}
