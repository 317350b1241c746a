/**
 * No call throws, whatever its arguments and the desk's state, but row() where it must: anything else that is
 * thrown ends this test. Every argument is tried with every edge, alone and with the other arguments' edges.
 */
public final class AnyArgumentsTest {
    private static final int[] EDGES = {Integer.MIN_VALUE, -2, -1, 0, 1, 5, 6, 7, 8, 9, 10, 19, 20, 40, 41, 64,
        Integer.MAX_VALUE};
    private static final long[] LONGS = {Long.MIN_VALUE, -1, 0, Long.MAX_VALUE};

    private int tried;

    public static void main(String[] args) {
        AnyArgumentsTest test = new AnyArgumentsTest();
        for (Situation situation : Situation.values()) {
            for (int first : EDGES) {
                test.one(situation.desk(), first);
                for (int second : EDGES) {
                    test.two(situation.desk(), first, second);
                }
            }
        }
        Due due = new Due("AnyArgumentsTest");
        due.is("calls were made", test.tried, 3 * EDGES.length * (5 + EDGES.length * (3 + 8 + 2 * EDGES.length)));
        due.end();
    }

    private void one(Desk x, int first) {
        x.make(first);
        x.told(first);
        x.numbers(first);
        x.tally(first);
        x.row(first);
        tried += 5;
    }

    private void two(Desk x, int first, int second) {
        x.wants(first, second);
        x.drop(first, second);
        x.here(first, second);
        tried += 3;
        for (int third : EDGES) {
            x.act(first, second, third);
            x.fails(first, second, third);
            tried += 2;
        }
        for (long a : LONGS) {
            x.call(first, second, a);
            x.again(first, second, a);
            tried += 2;
        }
    }
}
