/** Counts the answers of one test that are not as due. */
final class Check {
    /** A call that may throw. */
    interface Call {
        void run();
    }

    private static final long MOST_MILLIS = 120_000;

    private final String name;
    private int wrong = 0;
    private int seen = 0;

    Check(String name) {
        this.name = name;
        Thread watch = new Thread(this::endLate);
        watch.setDaemon(true);
        watch.start();
    }

    /** A call that does not end must fail the test, not hold it up. */
    private void endLate() {
        try {
            Thread.sleep(MOST_MILLIS);
        } catch (InterruptedException e) {
            return;
        }
        System.out.println(name + ": a call does not end");
        Runtime.getRuntime().halt(1);
    }

    void due(String call, long got, long want) {
        seen++;
        if (got != want) {
            report(call + " answered " + got + ", due is " + want);
        }
    }

    void due(String call, boolean got, boolean want) {
        due(call, got ? 1 : 0, want ? 1 : 0);
    }

    void due(String call, String got, String want) {
        seen++;
        if (!got.equals(want)) {
            report(call + " answered\n  " + got + "\ndue is\n  " + want);
        }
    }

    void dueThrow(String call, Class<? extends RuntimeException> want, Call tried) {
        seen++;
        Class<?> got = null;
        try {
            tried.run();
        } catch (RuntimeException e) {
            got = e.getClass();
        }
        if (got != want) {
            report(call + " threw " + got + ", due is " + want);
        }
    }

    void end() {
        System.out.println(name + ": " + seen + " answers, " + wrong + " not as due");
        if (wrong != 0 || seen == 0) {
            System.exit(1);
        }
    }

    private void report(String text) {
        wrong++;
        System.out.println(name + ": " + text);
    }
}
