/** Tells every call whose answer is not the one that is due, and ends a test with exit code 1 if there was one. */
final class Checks {
    interface Call {
        long answer();
    }

    private int wrong = 0;

    void due(String call, long got, long want) {
        if (got != want) {
            tell(call + " answered " + got + ", due is " + want);
        }
    }

    void due(String call, boolean got, boolean want) {
        due(call, got ? 1 : 0, want ? 1 : 0);
    }

    void due(String call, String got, String want) {
        if (!got.equals(want)) {
            tell(call + " answered " + got + ", due is " + want);
        }
    }

    void dueNoPlace(String name, Call call) {
        due(name, outcome(call), "throws.IndexOutOfBoundsException");
    }

    void dueBadNumber(String name, Call call) {
        due(name, outcome(call), "throws.IllegalArgumentException");
    }

    void dueBadState(String name, Call call) {
        due(name, outcome(call), "throws.IllegalStateException");
    }

    /** The exact class counts: what the machine throws by itself is a class below, and never due. */
    static String outcome(Call call) {
        try {
            return Long.toString(call.answer());
        } catch (RuntimeException e) {
            return "throws." + e.getClass().getSimpleName();
        }
    }

    void finish() {
        if (wrong != 0) {
            System.out.println(wrong + " answers are not as due");
            System.exit(1);
        }
    }

    private void tell(String what) {
        wrong++;
        System.out.println(what);
    }
}
