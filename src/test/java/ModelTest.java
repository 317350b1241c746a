import java.util.ArrayList;
import java.util.List;
import java.util.Random;
import java.util.TreeSet;

/**
 * Runs of drawn calls, wrong ones among them, against a second desk written another way:
 * it copies all of itself before a call and puts the copy back. The seeds are fixed.
 */
public final class ModelTest {
    private static final int RUNS = 6000;
    private static final int DRAWN_CALLS = 350;

    public static void main(String[] args) {
        Due due = new Due("ModelTest");
        long[] outcomes = new long[9];
        for (int seed = 0; seed < RUNS; seed++) {
            run(due, seed, outcomes);
        }
        // A run that never meets a case proves nothing of it.
        for (int with = 0; with < outcomes.length; with++) {
            due.is("calls ended with " + with + " are many", outcomes[with] > 100, true);
        }
        due.end();
    }

    private static void run(Due due, int seed, long[] outcomes) {
        Random random = new Random(seed);
        Desk x = new Desk();
        Model m = new Model();
        // Few kinds and calls in most runs, so that acts meet the same numbers and get full.
        int kinds = 1 + random.nextInt(8);
        int calls = 1 + random.nextInt(10);
        for (int i = 0; i < DRAWN_CALLS; i++) {
            String at = "seed " + seed + ", call " + i + ": ";
            int kind = draw(random, kinds, 8);
            int call = draw(random, calls, 10);
            int number = random.nextInt(8) == 0 ? draw(random, 42, 42) : 1 + random.nextInt(12);
            long a = random.nextInt(6) == 0 ? random.nextLong() : random.nextInt(20) - 10;
            one(due, at, x, m, random, kind, call, number, a);
        }
        compare(due, "seed " + seed + ", at the end: ", x, m, random.nextInt(kinds));
        for (int with = 0; with < outcomes.length; with++) {
            outcomes[with] += m.outcomes[with];
        }
    }

    private static int draw(Random random, int usual, int all) {
        int luck = random.nextInt(40);
        return luck == 0 ? -1 : luck == 1 ? all : luck == 2 ? random.nextInt() : random.nextInt(usual);
    }

    private static void one(Due due, String at, Desk x, Model m, Random random,
            int kind, int call, int number, long a) {
        switch (random.nextInt(18)) {
            case 0, 1 -> due.is(at + "collect", x.collect(a), m.collect(a));
            case 2 -> {
                int want = random.nextInt(3) == 0 ? -1 : kind;
                due.is(at + "wants", x.wants(call, want), m.wants(call, want));
            }
            case 3 -> {
                int sort = draw(random, 7, 7);
                due.is(at + "act", x.act(call, sort, kind), m.act(call, sort, kind));
            }
            case 4 -> {
                int i = draw(random, 6, 6);
                int with = 1 + draw(random, 5, 5);
                due.is(at + "fails", x.fails(call, i, with), m.fails(call, i, with));
            }
            case 5 -> due.is(at + "make", x.make(kind), m.make(kind));
            case 6 -> due.is(at + "drop", x.drop(kind, number), m.drop(kind, number));
            case 7, 8, 9, 10, 11, 12 -> due.is(at + "call", x.call(call, number, a), m.call(call, number, a));
            case 13 -> due.is(at + "again", x.again(call, number, a), m.again(call, number, a));
            case 14 -> due.is(at + "here", x.here(kind, number), m.here(kind, number));
            case 15 -> due.is(at + "numbers", x.numbers(kind), m.numbers(kind));
            case 16 -> due.is(at + "tally", x.tally(kind), m.tally(kind));
            default -> {
                int what = draw(random, 7, 7);
                due.is(at + "told", x.told(what), m.told(what));
            }
        }
    }

    private static void compare(Due due, String at, Desk x, Model m, int kindLookedAt) {
        for (int kind = -1; kind <= 8; kind++) {
            due.is(at + "numbers", x.numbers(kind), m.numbers(kind));
            due.is(at + "tally", x.tally(kind), m.tally(kind));
        }
        for (int number = -1; number <= 42; number++) {
            due.is(at + "here", x.here(kindLookedAt, number), m.here(kindLookedAt, number));
        }
        for (int what = -1; what <= 7; what++) {
            due.is(at + "told", x.told(what), m.told(what));
        }
        for (int i = -1; i <= 21; i++) {
            if (i < 0 || i >= m.state.row.size()) {
                due.noRowValue(x, i);
            } else {
                due.rowValue(x, i, m.state.row.get(i));
            }
        }
    }

    private static final class State {
        final int[] made = new int[8];
        final List<TreeSet<Integer>> here = new ArrayList<>();
        final long[] tally = new long[8];
        final List<Long> row = new ArrayList<>();

        State copy() {
            State copy = new State();
            for (int kind = 0; kind < 8; kind++) {
                copy.made[kind] = made[kind];
                copy.tally[kind] = tally[kind];
                copy.here.add(new TreeSet<>(here.get(kind)));
            }
            copy.row.addAll(row);
            return copy;
        }
    }

    private static final class ActFailed extends Exception {
        private static final long serialVersionUID = 1L;
        final int with;
        final int at;

        ActFailed(int with, int at) {
            super(null, null, false, false);
            this.with = with;
            this.at = at;
        }
    }

    private static final class Model {
        State state = new State();
        final int[] wanted = new int[10];
        final List<List<int[]>> acts = new ArrayList<>();
        final int[][] order = new int[10][];
        final int[] told = new int[7];
        final long[] outcomes = new long[9];

        Model() {
            for (int kind = 0; kind < 8; kind++) {
                state.here.add(new TreeSet<>());
            }
            for (int call = 0; call < 10; call++) {
                wanted[call] = -1;
                acts.add(new ArrayList<>());
            }
        }

        static boolean in(int value, int least, int most) {
            return value >= least && value <= most;
        }

        int collect(long v) {
            if (state.row.size() == 20) {
                return -1;
            }
            state.row.add(v);
            return state.row.size();
        }

        int wants(int call, int kind) {
            if (!in(call, 0, 9) || !in(kind, -1, 7)) {
                return -2;
            }
            int before = wanted[call];
            wanted[call] = kind;
            return before;
        }

        int act(int call, int sort, int kind) {
            if (!in(call, 0, 9) || !in(sort, 0, 6) || !in(kind, 0, 7) || acts.get(call).size() == 6) {
                return -1;
            }
            acts.get(call).add(new int[] {sort, kind});
            return acts.get(call).size();
        }

        int fails(int call, int i, int with) {
            if (!in(call, 0, 9) || !in(i, 0, 5) || !in(with, 1, 5)) {
                return 0;
            }
            order[call] = new int[] {i, with};
            return 1;
        }

        int make(int kind) {
            if (!in(kind, 0, 7) || state.made[kind] == 40) {
                return -1;
            }
            state.made[kind]++;
            state.here.get(kind).add(state.made[kind]);
            return state.made[kind];
        }

        boolean drop(int kind, int number) {
            return in(kind, 0, 7) && state.here.get(kind).remove(number);
        }

        boolean here(int kind, int number) {
            return in(kind, 0, 7) && state.here.get(kind).contains(number);
        }

        int numbers(int kind) {
            return in(kind, 0, 7) ? state.here.get(kind).size() : -1;
        }

        long tally(int kind) {
            return in(kind, 0, 7) ? state.tally[kind] : 0;
        }

        int told(int what) {
            return in(what, 0, 6) ? told[what] : -1;
        }

        long call(int call, int number, long a) {
            if (!in(call, 0, 9) || (wanted[call] != -1 && !here(wanted[call], number))) {
                told[1]++;
                return LibraryDesk.REFUSED;
            }
            State before = state.copy();
            try {
                long answer = doActs(call, number, a);
                told[0]++;
                outcomes[0]++;
                return answer;
            } catch (ActFailed failed) {
                state = before;
                told[2]++;
                told[3] = failed.with;
                told[4] = failed.at;
                told[5] = call;
                told[6] = number;
                outcomes[failed.with]++;
                return LibraryDesk.FAILED;
            }
        }

        long again(int call, int number, long a) {
            State before = state.copy();
            int[][] orderBefore = order.clone();
            int[] toldBefore = told.clone();
            long answer = call(call, number, a);
            state = before;
            System.arraycopy(orderBefore, 0, order, 0, 10);
            System.arraycopy(toldBefore, 0, told, 0, 7);
            return answer;
        }

        private long doActs(int call, int number, long a) throws ActFailed {
            long answer = a;
            for (int i = 0; i < acts.get(call).size(); i++) {
                int[] told = order[call];
                if (told != null && told[0] == i) {
                    order[call] = null;
                    throw new ActFailed(told[1], i);
                }
                int kind = acts.get(call).get(i)[1];
                int with = 0;
                switch (acts.get(call).get(i)[0]) {
                    case 0 -> with = make(kind) == -1 ? 6 : 0;
                    case 1 -> with = state.here.get(kind).pollLast() == null ? 7 : 0;
                    case 2 -> state.tally[kind] += a;
                    case 3 -> {
                        with = state.row.isEmpty() ? 8 : 0;
                        state.tally[kind] += state.row.isEmpty() ? 0 : state.row.remove(0);
                    }
                    case 4 -> answer = answer * 31 + state.tally[kind];
                    case 5 -> answer = answer * 31 + numbers(kind);
                    default -> with = drop(wanted[call], number) ? 0 : 7;
                }
                if (with != 0) {
                    throw new ActFailed(with, i);
                }
            }
            return answer;
        }
    }
}
