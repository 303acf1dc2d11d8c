/** Counts the answers that are not as due; a test ends with exit code 1 if there was one. */
final class Check {
    interface Call {
        long answer();
    }

    private int wrong = 0;
    private int asked = 0;

    void due(String call, long got, long want) {
        asked++;
        if (got != want) {
            wrong++;
            System.out.println(call + " answered " + got + ", due is " + want);
        }
    }

    void yes(String call, boolean got) {
        due(call, got ? 1 : 0, 1);
    }

    void no(String call, boolean got) {
        due(call, got ? 1 : 0, 0);
    }

    /** The very class is due, not one below it: a machine's own index fault must not pass. */
    void fails(String call, Class<? extends RuntimeException> want, Call made) {
        asked++;
        String got;
        try {
            got = "answered " + made.answer();
        } catch (RuntimeException e) {
            if (e.getClass() == want) {
                return;
            }
            got = "threw " + e.getClass().getName();
        }
        wrong++;
        System.out.println(call + " " + got + ", due is " + want.getName());
    }

    void text(String what, String got, String want) {
        asked++;
        if (!got.equals(want)) {
            wrong++;
            System.out.println(what + " is " + got + ", due is " + want);
        }
    }

    /** The latest list as at and count(2) tell it, with NONE on both sides of it. */
    void list(String call, MeasureRows x, int... want) {
        due(call + ": count(2)", x.count(2), want.length);
        for (int i = 0; i < want.length; i++) {
            due(call + ": at(" + i + ")", x.at(i), want[i]);
        }
        due(call + ": at(-1)", x.at(-1), MeasureRows.NONE);
        due(call + ": at(" + want.length + ")", x.at(want.length), MeasureRows.NONE);
    }

    void finish() {
        System.out.println(asked + " answers, " + wrong + " not as due");
        if (wrong != 0) {
            System.exit(1);
        }
    }
}
