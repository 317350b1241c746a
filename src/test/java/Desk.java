/**
 * The desk under test, with its calls counted: nothing is promised about an object after its 512th call,
 * so a test that makes more of them tests nothing.
 */
final class Desk {
    static final int MOST_CALLS = 512;

    private final LibraryDesk desk = new LibraryDesk();
    private int calls;

    /** Call 0 has all its acts; act i grows the tally of kind i by a. */
    static Desk withSixActs() {
        Desk x = new Desk();
        for (int i = 0; i < 6; i++) {
            x.act(0, 2, i);
        }
        return x;
    }

    private LibraryDesk next() {
        calls++;
        if (calls > MOST_CALLS) {
            throw new IllegalStateException("the test makes more than 512 calls on one object");
        }
        return desk;
    }

    int callsMade() {
        return calls;
    }

    int collect(long v) {
        return next().collect(v);
    }

    int wants(int call, int kind) {
        return next().wants(call, kind);
    }

    int act(int call, int sort, int kind) {
        return next().act(call, sort, kind);
    }

    int fails(int call, int i, int with) {
        return next().fails(call, i, with);
    }

    int make(int kind) {
        return next().make(kind);
    }

    boolean drop(int kind, int number) {
        return next().drop(kind, number);
    }

    long call(int call, int number, long a) {
        return next().call(call, number, a);
    }

    long again(int call, int number, long a) {
        return next().again(call, number, a);
    }

    int told(int what) {
        return next().told(what);
    }

    int numbers(int kind) {
        return next().numbers(kind);
    }

    boolean here(int kind, int number) {
        return next().here(kind, number);
    }

    long tally(int kind) {
        return next().tally(kind);
    }

    /** Null if the desk throws just the class that the document names; any other exception ends the test. */
    Long row(int i) {
        LibraryDesk asked = next();
        try {
            return asked.row(i);
        } catch (ArrayIndexOutOfBoundsException e) {
            if (e.getClass() != ArrayIndexOutOfBoundsException.class) {
                throw e;
            }
            return null;
        }
    }

    void make(int kind, int times) {
        for (int i = 0; i < times; i++) {
            make(kind);
        }
    }

    /** Collects first, first + 1, .. */
    void collect(long first, int times) {
        for (int i = 0; i < times; i++) {
            collect(first + i);
        }
    }
}
