/** Counts the answers that are not as due; a test ends with exit code 1 if there was one. */
final class Check {
    interface Call {
        long answer();
    }

    private String test = "";
    private int wrong = 0;
    private int asked = 0;

    /** What is asked from here on belongs to this test. */
    void begin(String name) {
        test = name + ": ";
    }

    void due(String call, long got, long want) {
        asked++;
        if (got != want) {
            tell(call + " answered " + got + ", due is " + want);
        }
    }

    void yes(String call, boolean got) {
        due(call, got ? 1 : 0, 1);
    }

    void no(String call, boolean got) {
        due(call, got ? 1 : 0, 0);
    }

    /** The very class is due, not one below it: a machine's own index fault must not pass. */
    void fails(String call, Class<? extends RuntimeException> want, Call made) {
        asked++;
        String got;
        try {
            got = "answered " + made.answer();
        } catch (RuntimeException e) {
            if (e.getClass() == want) {
                return;
            }
            got = "threw " + e.getClass().getName();
        }
        tell(call + " " + got + ", due is " + want.getName());
    }

    void text(String what, String got, String want) {
        asked++;
        if (!got.equals(want)) {
            tell(what + " is " + got + ", due is " + want);
        }
    }

    /** The latest list as at and count(2) tell it, with NONE on both sides of it. */
    void list(String call, MeasureRows x, int... want) {
        due(call + ": count(2)", x.count(2), want.length);
        for (int i = 0; i < want.length; i++) {
            due(call + ": at(" + i + ")", x.at(i), want[i]);
        }
        due(call + ": at(-1)", x.at(-1), MeasureRows.NONE);
        due(call + ": at(" + want.length + ")", x.at(want.length), MeasureRows.NONE);
    }

    void broken(Throwable cause) {
        tell("broke off by " + cause);
    }

    void finish() {
        System.out.println(asked + " answers, " + wrong + " not as due");
        if (wrong != 0) {
            System.exit(1);
        }
    }

    private void tell(String fault) {
        wrong++;
        System.out.println(test + fault);
    }
}
