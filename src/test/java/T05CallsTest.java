/** Terms: CALLS, what they want at first, and their ACTS with their most. */
public final class T05CallsTest {
    public static void main(String[] args) {
        Due due = new Due("T05CallsTest");
        eachCallIsOne(due);
        noOtherIsOne(due);
        atFirstNone(due);
        sixActs(due);
        noSeventhAct(due);
        inTheOrderInWhichTheyAreTold(due);
        due.end();
    }

    private static void eachCallIsOne(Due due) {
        due.sentence("CALLS are 0 .. 9.");
        Desk x = new Desk();
        for (int call = 0; call <= 9; call++) {
            String of = "(" + call + ", ..)";
            due.is("wants" + of, x.wants(call, -1), -1);
            due.is("act" + of, x.act(call, 2, 0), 1);
            due.is("fails" + of, x.fails(call, 0, 1 + call % 5), 1);
        }
        for (int call = 0; call <= 9; call++) {
            due.is("again(" + call + ", ..)", x.again(call, 0, 4), LibraryDesk.FAILED);
            due.failed(x, x.call(call, 0, 4), 1 + call % 5, 0);
            due.is("told(5)", x.told(5), call);
            due.is("call(" + call + ", ..)", x.call(call, 0, 4), 4);
        }
        due.is("tally(0)", x.tally(0), 40);
    }

    private static void noOtherIsOne(Due due) {
        due.sentence("CALLS are 0 .. 9.: there is no other");
        Desk x = new Desk();
        for (int call : Outside.CALLS) {
            String of = "(" + call + ", ..)";
            due.is("wants" + of, x.wants(call, 0), -2);
            due.is("wants none" + of, x.wants(call, -1), -2);
            due.is("act" + of, x.act(call, 2, 0), -1);
            due.is("fails" + of, x.fails(call, 0, 1), 0);
            due.is("again" + of, x.again(call, 0, 4), LibraryDesk.REFUSED);
            due.is("call" + of, x.call(call, 0, 4), LibraryDesk.REFUSED);
        }
    }

    private static void atFirstNone(Due due) {
        due.sentence("A call may want a number of a KIND (at first none)");
        Desk x = new Desk();
        for (int call = 0; call <= 9; call++) {
            due.is("call of a call that wants none", x.call(call, -call, 60 + call), 60 + call);
            due.is("wants(" + call + ", 0) at first", x.wants(call, 0), -1);
            due.is("call of one that wants kind 0", x.call(call, 1, 5), LibraryDesk.REFUSED);
        }
    }

    private static void sixActs(Due due) {
        due.sentence("has ACTS, 6 at most");
        for (int call = 0; call <= 9; call++) {
            Desk x = new Desk();
            for (int have = 0; have < 6; have++) {
                due.is("act(" + call + ", ..)", x.act(call, 2, have), have + 1);
                due.is("call with " + (have + 1) + " acts", x.call(call, 0, 1), 1);
                due.is("tally of its last act", x.tally(have), 1);
                due.is("tally of its first act", x.tally(0), have + 1);
            }
            due.is("act of a seventh", x.act(call, 2, 7), -1);
            due.is("act of another call", x.act((call + 1) % 10, 2, 7), 1);
        }
    }

    private static void noSeventhAct(Due due) {
        due.sentence("6 at most: a seventh is not done, and takes no other's place");
        Desk x = new Desk();
        for (int i = 0; i < 6; i++) {
            x.act(0, 2, i);
        }
        due.is("act of a seventh", x.act(0, 2, 6), -1);
        due.is("act of a seventh again", x.act(0, 2, 6), -1);
        due.is("call", x.call(0, 0, 9), 9);
        for (int kind = 0; kind <= 7; kind++) {
            due.is("tally(" + kind + ")", x.tally(kind), kind < 6 ? 9 : 0);
        }
    }

    private static void inTheOrderInWhichTheyAreTold(Due due) {
        due.sentence("in the order in which they are told, each of a sort and a KIND");
        Desk x = new Desk();
        x.act(0, 4, 0);
        x.act(0, 2, 0);
        x.act(1, 2, 1);
        x.act(1, 4, 1);
        due.is("the answer, then the tally", x.call(0, 0, 5), 31 * 5);
        due.is("the tally, then the answer", x.call(1, 0, 5), 31 * 5 + 5);
        due.is("an act more between calls", x.act(0, 4, 0), 3);
        due.is("call with it", x.call(0, 0, 1), (31 + 5) * 31 + 6);
        Desk y = new Desk();
        for (int i = 0; i < 3; i++) {
            y.act(7, 0, 2);
            y.act(7, 5, 2);
        }
        due.is("all six by turns", y.call(7, 0, 1), ((31 + 1) * 31 + 2) * 31 + 3);
    }
}
