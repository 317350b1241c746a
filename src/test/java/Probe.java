import java.util.ArrayList;
import java.util.List;

/**
 * Asks a desk all that later calls can tell of it, but for told's counts: two desks of which all is the same
 * answer the same. It changes the desk, and makes up to 273 of its calls.
 */
final class Probe {
    private static final int[] NUMBERS_ASKED = {1, 2, 3, 39, 40};

    private final Desk desk;
    private final List<String> answers = new ArrayList<>();

    private Probe(Desk desk) {
        this.desk = desk;
    }

    static List<String> answers(Desk desk) {
        Probe probe = new Probe(desk);
        probe.askHoldings();
        probe.askCalls();
        probe.fillCalls();
        probe.useUpHoldings();
        return probe.answers;
    }

    private void add(String call, Object answer) {
        answers.add(call + " answered " + answer);
    }

    private void askHoldings() {
        for (int kind = 0; kind < 8; kind++) {
            add("numbers(" + kind + ")", desk.numbers(kind));
            add("tally(" + kind + ")", desk.tally(kind));
            for (int number : NUMBERS_ASKED) {
                add("here(" + kind + ", " + number + ")", desk.here(kind, number));
            }
        }
        for (int i = 0; i <= 20; i++) {
            add("row(" + i + ")", desk.row(i));
        }
    }

    private void askCalls() {
        for (int call = 0; call < 10; call++) {
            add("again(" + call + ", 2, 3)", desk.again(call, 2, 3));
            doCall(call, 1);
            doCall(call, 1);
        }
    }

    /** Tells whether and with what a call was told to fail, at an act that it has not yet too. */
    private void fillCalls() {
        for (int call = 0; call < 10; call++) {
            add("wants(" + call + ", -1)", desk.wants(call, -1));
            int have;
            do {
                have = desk.act(call, 5, 0);
                add("act(" + call + ", 5, 0)", have);
            } while (have != LibraryDesk.NONE && have < 6);
            doCall(call, 0);
        }
    }

    private void doCall(int call, int number) {
        long answer = desk.call(call, number, 5);
        add("call(" + call + ", " + number + ", 5)", answer);
        // Without a failure these two tell of a call from before the probe.
        if (answer == LibraryDesk.FAILED) {
            add("told(3)", desk.told(3));
            add("told(4)", desk.told(4));
        }
    }

    private void useUpHoldings() {
        for (int kind = 0; kind < 8; kind++) {
            add("make(" + kind + ") after all", desk.make(kind));
            add("numbers(" + kind + ") after all", desk.numbers(kind));
            add("tally(" + kind + ") after all", desk.tally(kind));
        }
        add("row(0) after all", desk.row(0));
        add("collect(1) after all", desk.collect(1));
    }
}
