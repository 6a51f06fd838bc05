/** Counts what the tests find; the program ends with exit code 1 if a check failed. */
final class Checks {
    interface Call {
        long answer();
    }

    interface Act {
        void run();
    }

    private int passed;
    private int failed;
    private String promise = "";

    void promise(String name) {
        promise = name;
    }

    void due(String call, long want, long got) {
        record(want == got, call + " answered " + got + ", due is " + want);
    }

    void due(String call, boolean want, boolean got) {
        record(want == got, call + " answered " + got + ", due is " + want);
    }

    void due(String call, String want, String got) {
        record(want.equals(got), call + " answered " + got + ", due is " + want);
    }

    void dueThrow(String call, Class<? extends RuntimeException> want, Call made) {
        due(call, "throws." + want.getSimpleName(), outcome(made));
    }

    void dueThrowOf(String call, Class<? extends RuntimeException> want, Act made) {
        dueThrow(call, want, () -> {
            made.run();
            return 0;
        });
    }

    void dueNoThrow(String call, Runnable made) {
        due(call, "0", outcome(() -> {
            made.run();
            return 0;
        }));
    }

    /** The answer as a text, or the name of the exception; one of the machine's own stays visible by its name. */
    static String outcome(Call made) {
        try {
            return Long.toString(made.answer());
        } catch (RuntimeException e) {
            return "throws." + e.getClass().getSimpleName();
        }
    }

    private void record(boolean isRight, String message) {
        if (isRight) {
            passed++;
        } else {
            failed++;
            System.out.println(promise + ": " + message);
        }
    }

    int made() {
        return passed + failed;
    }

    void end(String test) {
        System.out.println(test + ": " + passed + " checks passed, " + failed + " failed");
        if (failed != 0 || passed == 0) {
            System.exit(1);
        }
    }
}
