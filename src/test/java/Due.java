import java.util.List;

/** Compares answers with those that are due, and ends a test with exit code 1 if one differed. */
final class Due {
    private final String test;
    private String sentence;
    private int askedOfSentence;
    private int wrong;
    private int asked;

    Due(String test) {
        this.test = test;
    }

    /** The words of the document that the checks from here on are about. */
    void sentence(String words) {
        noEmptySentence();
        sentence = words;
        askedOfSentence = 0;
    }

    void is(String call, long got, long want) {
        count();
        if (got != want) {
            tell(call + " answered " + got + ", due is " + want);
        }
    }

    void is(String call, boolean got, boolean want) {
        count();
        if (got != want) {
            tell(call + " answered " + got + ", due is " + want);
        }
    }

    void rowValue(Desk desk, int i, long want) {
        Long got = desk.row(i);
        count();
        if (got == null || got != want) {
            tell("row(" + i + ") " + (got == null ? "threw" : "answered " + got) + ", due is " + want);
        }
    }

    void noRowValue(Desk desk, int i) {
        Long got = desk.row(i);
        count();
        if (got != null) {
            tell("row(" + i + ") answered " + got + ", due is ArrayIndexOutOfBoundsException");
        }
    }

    void row(Desk desk, long... values) {
        for (int i = 0; i < values.length; i++) {
            rowValue(desk, i, values[i]);
        }
        noRowValue(desk, values.length);
    }

    /** What told answers to 0, 1, .. */
    void told(Desk desk, int... want) {
        for (int what = 0; what < want.length; what++) {
            is("told(" + what + ")", desk.told(what), want[what]);
        }
    }

    /** A call that fails with what and at which act; the rest of told is checked where it matters. */
    void failed(Desk desk, long answer, int with, int act) {
        is("a call that fails", answer, LibraryDesk.FAILED);
        is("told(3), with what it failed", desk.told(3), with);
        is("told(4), the act that failed", desk.told(4), act);
    }

    void same(String what, List<String> got, List<String> want) {
        count();
        if (got.equals(want)) {
            return;
        }
        int i = 0;
        while (i < got.size() && i < want.size() && got.get(i).equals(want.get(i))) {
            i++;
        }
        tell(what + ": " + (i < got.size() ? got.get(i) : "nothing")
                + ", due is " + (i < want.size() ? want.get(i) : "nothing"));
    }

    void end() {
        noEmptySentence();
        if (wrong != 0) {
            System.out.println(test + ": " + wrong + " of " + asked + " answers are not as due");
            System.exit(1);
        }
    }

    private void count() {
        asked++;
        askedOfSentence++;
    }

    private void tell(String fault) {
        wrong++;
        System.out.println(test + (sentence == null ? "" : ", \"" + sentence + "\"") + ": " + fault);
    }

    private void noEmptySentence() {
        if (sentence != null && askedOfSentence == 0) {
            tell("nothing was checked");
        }
    }
}
