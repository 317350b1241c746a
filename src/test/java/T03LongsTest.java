/** Terms: "Each KIND has a TALLY, a long, 0 at first. All longs run over." */
public final class T03LongsTest {
    /** 31 times it is seven less than the greatest long. */
    private static final long A_31ST = Long.MAX_VALUE / 31;

    public static void main(String[] args) {
        Due due = new Due("T03LongsTest");
        due.sentence("Each KIND has a TALLY, a long, 0 at first.");
        Desk x = new Desk();
        for (int kind = 0; kind <= 7; kind++) {
            due.is("tally(" + kind + ")", x.tally(kind), 0);
        }
        tallyByA(due);
        tallyByValues(due);
        answerByNumbers(due);
        answerByTally(due);
        answerTimes31(due);
        due.end();
    }

    private static void tallyByA(Due due) {
        due.sentence("All longs run over.: a TALLY that grows by a");
        Desk x = new Desk();
        x.act(0, 2, 7);
        due.is("call", x.call(0, 0, Long.MAX_VALUE), Long.MAX_VALUE);
        due.is("tally(7) at the top", x.tally(7), Long.MAX_VALUE);
        due.is("call", x.call(0, 0, 1), 1);
        due.is("tally(7) over the top", x.tally(7), Long.MIN_VALUE);
        due.is("call", x.call(0, 0, -1), -1);
        due.is("tally(7) over the bottom", x.tally(7), Long.MAX_VALUE);
        due.is("call", x.call(0, 0, Long.MIN_VALUE), Long.MIN_VALUE);
        due.is("tally(7) of both ends", x.tally(7), -1);
        due.is("call", x.call(0, 0, Long.MIN_VALUE), Long.MIN_VALUE);
        due.is("tally(7) one under the bottom", x.tally(7), Long.MAX_VALUE);
    }

    private static void tallyByValues(Due due) {
        due.sentence("All longs run over.: a TALLY that grows by a value of THE ROW");
        Desk x = new Desk();
        x.act(0, 3, 0);
        x.collect(Long.MIN_VALUE);
        x.collect(-1);
        x.collect(1);
        due.row(x, Long.MIN_VALUE, -1, 1);
        x.call(0, 0, 9);
        due.is("tally(0) at the bottom", x.tally(0), Long.MIN_VALUE);
        x.call(0, 0, 9);
        due.is("tally(0) over the bottom", x.tally(0), Long.MAX_VALUE);
        x.call(0, 0, 9);
        due.is("tally(0) over the top", x.tally(0), Long.MIN_VALUE);
    }

    private static void answerByNumbers(Due due) {
        due.sentence("All longs run over.: THE ANSWER by how many numbers are HERE");
        Desk x = new Desk();
        x.act(0, 5, 3);
        x.make(3, 7);
        due.is("THE ANSWER at the top", x.call(0, 0, A_31ST), Long.MAX_VALUE);
        x.make(3);
        due.is("THE ANSWER over the top", x.call(0, 0, A_31ST), Long.MIN_VALUE);
        due.is("again over the top", x.again(0, 0, A_31ST), Long.MIN_VALUE);
    }

    private static void answerByTally(Due due) {
        due.sentence("All longs run over.: THE ANSWER by a TALLY");
        Desk x = new Desk();
        x.act(0, 2, 5);
        x.act(1, 4, 5);
        x.call(0, 0, -8);
        due.is("THE ANSWER at the bottom", x.call(1, 0, -A_31ST), Long.MIN_VALUE);
        x.call(0, 0, -1);
        due.is("THE ANSWER over the bottom", x.call(1, 0, -A_31ST), Long.MAX_VALUE);
        due.is("again over the bottom", x.again(1, 0, -A_31ST), Long.MAX_VALUE);
    }

    private static void answerTimes31(Due due) {
        due.sentence("All longs run over.: THE ANSWER 31 times itself");
        Desk x = new Desk();
        x.act(0, 5, 0);
        due.is("31 times, under the top", x.call(0, 0, A_31ST), Long.MAX_VALUE - 7);
        due.is("31 times, over the top", x.call(0, 0, A_31ST + 1), Long.MIN_VALUE + 23);
        due.is("31 times, above the bottom", x.call(0, 0, -A_31ST), Long.MIN_VALUE + 8);
        due.is("31 times, under the bottom", x.call(0, 0, -A_31ST - 1), Long.MAX_VALUE - 22);
        due.is("31 times the greatest", x.call(0, 0, Long.MAX_VALUE), Long.MAX_VALUE - 30);
        due.is("31 times the least", x.call(0, 0, Long.MIN_VALUE), Long.MIN_VALUE);
    }
}
