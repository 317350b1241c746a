/** Promise 4: act. */
public final class P04ActTest {
    public static void main(String[] args) {
        Due due = new Due("P04ActTest");
        howManyItHas(due);
        noSuchCall(due);
        noSuchSort(due);
        noSuchKind(due);
        noneIfItHas6(due);
        due.end();
    }

    private static void howManyItHas(Due due) {
        due.sentence("A call has one ACT more, of a sort: how many it has");
        Desk x = new Desk();
        for (int sort = 0; sort <= 6; sort++) {
            due.is("act(" + sort + ", " + sort + ", 7)", x.act(sort, sort, 7), 1);
            due.is("act(" + sort + ", " + sort + ", 0)", x.act(sort, sort, 0), 2);
            due.is("act(9, ..)", x.act(9, sort, sort), sort < 6 ? sort + 1 : -1);
        }
    }

    private static void noSuchCall(Due due) {
        due.sentence("NONE if there is no such call");
        Desk x = new Desk();
        for (int call : Outside.CALLS) {
            due.is("act(" + call + ", 2, 0)", x.act(call, 2, 0), -1);
        }
        hasNoActs(due, x);
    }

    private static void noSuchSort(Due due) {
        due.sentence("NONE if there is no such .. sort");
        Desk x = new Desk();
        for (int sort : Outside.SORTS) {
            due.is("act(8, " + sort + ", 0)", x.act(8, sort, 0), -1);
        }
        hasNoActs(due, x);
    }

    private static void noSuchKind(Due due) {
        due.sentence("NONE if there is no such .. KIND");
        Desk x = new Desk();
        for (int sort = 0; sort <= 6; sort++) {
            for (int kind : Outside.KINDS) {
                due.is("act(8, " + sort + ", " + kind + ")", x.act(8, sort, kind), -1);
            }
        }
        hasNoActs(due, x);
    }

    private static void hasNoActs(Due due, Desk x) {
        for (int call = 0; call <= 9; call++) {
            due.is("call(" + call + ", 0, 17) without acts", x.call(call, 0, 17), 17);
            due.is("act(" + call + ", 2, 0) of a first", x.act(call, 2, 0), 1);
        }
        due.is("tally(0)", x.tally(0), 0);
        due.is("told(0)", x.told(0), 10);
    }

    private static void noneIfItHas6(Due due) {
        due.sentence("NONE if .. it has 6");
        Desk x = new Desk();
        for (int i = 0; i < 5; i++) {
            x.act(9, 2, i);
        }
        due.is("act(9, -1, 0) with 5", x.act(9, -1, 0), -1);
        due.is("act with 5", x.act(9, 2, 5), 6);
        due.is("act with 6", x.act(9, 2, 6), -1);
        due.is("act with 6, wrong in all", x.act(9, 7, 8), -1);
        due.is("act of another call", x.act(8, 2, 6), 1);
        due.is("call", x.call(9, 0, 3), 3);
        for (int kind = 0; kind <= 7; kind++) {
            due.is("tally(" + kind + ")", x.tally(kind), kind <= 5 ? 3 : 0);
        }
    }
}
