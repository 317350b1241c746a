/** Compares answers with those that are due, and ends a test with exit code 1 if one differed. */
final class Due {
    private final String test;
    private int wrong;
    private int asked;

    Due(String test) {
        this.test = test;
    }

    void is(String call, long got, long want) {
        asked++;
        if (got != want) {
            wrong++;
            System.out.println(test + ": " + call + " answered " + got + ", due is " + want);
        }
    }

    void is(String call, boolean got, boolean want) {
        is(call, got ? 1L : 0L, want ? 1L : 0L);
    }

    void row(LibraryDesk desk, long... values) {
        for (int i = 0; i < values.length; i++) {
            rowValue(desk, i, values[i]);
        }
        noRowValue(desk, values.length);
    }

    void noRowValue(LibraryDesk desk, int i) {
        is("row(" + i + ") throws", rowThrows(desk, i), true);
    }

    private void rowValue(LibraryDesk desk, int i, long want) {
        if (rowThrows(desk, i)) {
            is("row(" + i + ") throws", true, false);
        } else {
            is("row(" + i + ")", desk.row(i), want);
        }
    }

    static boolean rowThrows(LibraryDesk desk, int i) {
        try {
            desk.row(i);
            return false;
        } catch (ArrayIndexOutOfBoundsException e) {
            return true;
        }
    }

    void end() {
        if (wrong != 0) {
            System.out.println(test + ": " + wrong + " of " + asked + " answers are not as due");
            System.exit(1);
        }
    }
}
