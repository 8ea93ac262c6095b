/** Counts answers that are not the ones that are due, and prints them. */
class Check {
    interface Call {
        void run();
    }

    private int wrong = 0;
    private int asked = 0;
    private String subject = "";

    /** Stands ahead of each wrong answer from now on. */
    void about(String newSubject) {
        subject = newSubject;
    }

    void due(String call, long got, long want) {
        asked++;
        if (got != want) {
            wrong++;
            System.out.println(subject + call + " answered " + got + ", due is " + want);
        }
    }

    void due(String call, boolean got, boolean want) {
        due(call, got ? 1 : 0, want ? 1 : 0);
    }

    /** The class must be this very one: the machine's own index exceptions are below IndexOutOfBoundsException. */
    void throwsJust(Class<? extends RuntimeException> want, String call, Call run) {
        asked++;
        String got = "nothing";
        try {
            run.run();
        } catch (RuntimeException e) {
            if (e.getClass() == want) {
                return;
            }
            got = e.getClass().getSimpleName();
        }
        wrong++;
        System.out.println(subject + call + " threw " + got + ", due is " + want.getSimpleName());
    }

    void noSuch(String call, Call run) {
        throwsJust(IndexOutOfBoundsException.class, call, run);
    }

    void badArgument(String call, Call run) {
        throwsJust(IllegalArgumentException.class, call, run);
    }

    void badState(String call, Call run) {
        throwsJust(IllegalStateException.class, call, run);
    }

    void end() {
        System.out.println(asked + " answers, " + wrong + " of them wrong");
        if (wrong > 0) {
            System.exit(1);
        }
    }
}
