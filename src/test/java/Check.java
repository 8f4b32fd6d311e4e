/** Compares answers with what is due, and ends the test with exit code 1 if one was wrong. */
final class Check {
    interface Call {
        void make();
    }

    private int right;
    private int wrong;

    void due(String call, long got, long want) {
        if (got == want) {
            right++;
        } else {
            wrong++;
            System.out.println(call + " answered " + got + ", due is " + want);
        }
    }

    void due(String call, boolean got, boolean want) {
        due(call, got ? 1 : 0, want ? 1 : 0);
    }

    void due(String call, String got, String want) {
        if (got.equals(want)) {
            right++;
        } else {
            wrong++;
            System.out.println(call + " answered " + got + ", due is " + want);
        }
    }

    void badArgument(String call, Call made) {
        due(call, thrownBy(made), "IllegalArgumentException");
    }

    void badState(String call, Call made) {
        due(call, thrownBy(made), "IllegalStateException");
    }

    static String thrownBy(Call made) {
        try {
            made.make();
            return "nothing";
        } catch (RuntimeException e) {
            return e.getClass().getSimpleName();
        }
    }

    void end() {
        System.out.println(right + " answers are as due, " + wrong + " are not");
        if (wrong != 0) {
            System.exit(1);
        }
    }
}
