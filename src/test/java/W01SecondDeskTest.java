import java.util.Random;

/**
 * "What it is": "any call as a second desk would answer it". Two desks are given the same drawn calls in turn
 * (the seeds are fixed), while a third one is given others: the first two answer alike, whatever is asked of the
 * first one with again(), and again() answers there what call() answers at the second.
 */
public final class W01SecondDeskTest {
    private static final int RUNS = 300;
    private static final int DRAWN_CALLS = 110;

    public static void main(String[] args) {
        Due due = new Due("W01SecondDeskTest");
        due.sentence("any call as a second desk would answer it");
        long failed = 0;
        for (int seed = 0; seed < RUNS; seed++) {
            failed += run(due, seed);
        }
        due.is("many calls failed, which must leave nothing", failed > 1000, true);
        due.end();
    }

    private static long run(Due due, int seed) {
        Random random = new Random(seed);
        Desk first = new Desk();
        Desk second = new Desk();
        Desk other = new Desk();
        for (int i = 0; i < DRAWN_CALLS; i++) {
            String at = "seed " + seed + ", call " + i;
            int call = random.nextInt(3);
            int kind = random.nextInt(3);
            int number = 1 + random.nextInt(6);
            int drawn = random.nextInt(100);
            if (drawn < 45) {
                long would = first.again(call, number, drawn);
                long answer = second.call(call, number, drawn);
                due.is(at + ", again and a second desk's call", would, answer);
                due.is(at + ", call and a second desk's call", first.call(call, number, drawn), answer);
            } else {
                due.is(at + " and a second desk's", change(first, drawn, call, kind, number),
                        change(second, drawn, call, kind, number));
            }
            change(other, 45 + random.nextInt(55), call, kind, number);
            other.call(call, number, drawn);
        }
        long failed = second.told(2);
        due.same("seed " + seed + ", at the end", Probe.answers(first), Probe.answers(second));
        return failed;
    }

    private static long change(Desk x, int drawn, int call, int kind, int number) {
        if (drawn < 60) {
            return x.make(kind);
        } else if (drawn < 70) {
            return x.collect(drawn);
        } else if (drawn < 85) {
            return x.act(call, drawn % 7, kind);
        } else if (drawn < 90) {
            return x.fails(call, drawn % 6, 1 + drawn % 5);
        } else if (drawn < 95) {
            return x.wants(call, kind - 1);
        }
        return x.drop(kind, number) ? 1 : 0;
    }
}
