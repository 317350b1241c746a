/** Promise 13: tally. */
public final class P13TallyTest {
    public static void main(String[] args) {
        Due due = new Due("P13TallyTest");
        aKindsTally(due);
        noSuchKind(due);
        due.end();
    }

    private static void aKindsTally(Due due) {
        due.sentence("A KIND's TALLY");
        Desk x = new Desk();
        long[] grown = {0, 1, -1, Long.MAX_VALUE, Long.MIN_VALUE, 1L << 32, LibraryDesk.REFUSED, LibraryDesk.FAILED};
        for (int kind = 0; kind <= 7; kind++) {
            x.act(kind, 2, kind);
            x.call(kind, 0, grown[kind]);
        }
        for (int kind = 0; kind <= 7; kind++) {
            due.is("tally(" + kind + ")", x.tally(kind), grown[kind]);
        }
    }

    private static void noSuchKind(Due due) {
        due.sentence("0 if there is no such KIND");
        Desk x = new Desk();
        for (int kind = 0; kind <= 7; kind++) {
            x.act(kind, 2, kind);
            x.call(kind, 0, 5 + kind);
        }
        for (int kind : Outside.KINDS) {
            due.is("tally(" + kind + ")", x.tally(kind), 0);
        }
        due.is("tally(0) at the edge", x.tally(0), 5);
        due.is("tally(7) at the edge", x.tally(7), 12);
    }
}
