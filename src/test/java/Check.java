/** Compares answers with what is due, and ends the test with exit code 1 if one was wrong. */
final class Check {
    interface Call {
        void make();
    }

    private static final long MOST_SECONDS = 300;

    private int right;
    private int wrong;
    private int sentences;
    private int answersBefore;
    private String sentence = "";

    Check() {
        watch();
    }

    /** Ends a test whose calls never end, so that it fails and the others are run. */
    static void watch() {
        Thread watcher = new Thread(() -> {
            try {
                Thread.sleep(MOST_SECONDS * 1000);
            } catch (InterruptedException e) {
                return;
            }
            System.out.println("a call did not end within " + MOST_SECONDS + " seconds");
            Runtime.getRuntime().halt(1);
        });
        watcher.setDaemon(true);
        watcher.start();
    }

    /** The document's sentence that the next answers are about; one without an answer is a fault of the test. */
    void about(String words) {
        endSentence();
        sentence = words;
        sentences++;
        answersBefore = right + wrong;
    }

    private void endSentence() {
        if (sentences > 0 && right + wrong == answersBefore) {
            wrong++;
            System.out.println("not tested: " + sentence);
        }
    }

    void due(String call, long got, long want) {
        due(call, "" + got, "" + want);
    }

    void due(String call, boolean got, boolean want) {
        due(call, got ? 1 : 0, want ? 1 : 0);
    }

    void due(String call, String got, String want) {
        if (got.equals(want)) {
            right++;
        } else {
            wrong++;
            System.out.println((sentence.isEmpty() ? "" : "[" + sentence + "] ")
                    + call + " answered " + got + ", due is " + want);
        }
    }

    void badArgument(String call, Call made) {
        due(call, thrownBy(made), "IllegalArgumentException");
    }

    void badState(String call, Call made) {
        due(call, thrownBy(made), "IllegalStateException");
    }

    static String thrownBy(Call made) {
        try {
            made.make();
            return "nothing";
        } catch (RuntimeException e) {
            return e.getClass().getSimpleName();
        }
    }

    void end() {
        endSentence();
        System.out.println((sentences == 0 ? "" : sentences + " sentences: ")
                + right + " answers are as due, " + wrong + " are not");
        if (wrong != 0) {
            System.exit(1);
        }
    }
}
