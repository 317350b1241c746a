/** Promise 13: tally. */
public final class P13TallyTest {
    public static void main(String[] args) {
        Due due = new Due("P13TallyTest");
        LibraryDesk x = new LibraryDesk();
        for (int kind = 0; kind < 8; kind++) {
            x.act(kind, 2, kind);
            x.call(kind, 0, 100L * kind + 1);
        }
        for (int kind = 0; kind < 8; kind++) {
            due.is("tally", x.tally(kind), 100L * kind + 1);
        }
        x.call(0, 0, Long.MIN_VALUE);
        due.is("tally", x.tally(0), Long.MIN_VALUE + 1);
        x.call(0, 0, -2);
        due.is("tally runs over", x.tally(0), Long.MAX_VALUE);
        int[] wrong = {-1, 8, 9, Integer.MIN_VALUE, Integer.MAX_VALUE};
        for (int kind : wrong) {
            due.is("tally of no kind", x.tally(kind), 0);
        }
        due.end();
    }
}
