/** Promise 4: act. */
public final class P04ActTest {
    public static void main(String[] args) {
        Due due = new Due("P04ActTest");
        LibraryDesk x = new LibraryDesk();
        wrongOnes(due, x);
        for (int sort = 0; sort < 7; sort++) {
            due.is("act of each sort", x.act(sort, sort, 7), 1);
            due.is("act of each sort", x.act(sort, sort, 0), 2);
        }
        for (int i = 1; i <= 6; i++) {
            due.is("act", x.act(9, 2, i), i);
        }
        due.is("a seventh act", x.act(9, 2, 7), -1);
        wrongOnes(due, x);
        x.call(9, 0, 3);
        due.is("tally of the first act", x.tally(1), 3);
        due.is("tally of the sixth act", x.tally(6), 3);
        due.is("tally of no act", x.tally(7), 0);
        actsGoInOrder(due);
        due.end();
    }

    private static void wrongOnes(Due due, LibraryDesk x) {
        int[] wrong = {-1, Integer.MIN_VALUE, Integer.MAX_VALUE, 10, 100};
        for (int w : wrong) {
            due.is("act of no call", x.act(w, 0, 0), -1);
            due.is("act of no sort", x.act(8, w, 0), -1);
            due.is("act of no kind", x.act(8, 0, w), -1);
        }
        due.is("act of sort 7", x.act(8, 7, 0), -1);
        due.is("act of kind 8", x.act(8, 0, 8), -1);
        due.is("a call without acts", x.again(8, 0, 17), 17);
    }

    private static void actsGoInOrder(Due due) {
        LibraryDesk x = new LibraryDesk();
        x.act(0, 4, 0);
        x.act(0, 2, 0);
        x.act(1, 2, 1);
        x.act(1, 4, 1);
        due.is("answer, then grow", x.call(0, 0, 5), 155);
        due.is("grow, then answer", x.call(1, 0, 5), 160);
        due.is("an act more between calls", x.act(0, 4, 0), 3);
        due.is("call with it", x.call(0, 0, 1), (31 + 5) * 31 + 6);
    }
}
