/** Runs named tests and counts how they end. */
final class Suite {
    interface Call {
        Object answer();
    }

    interface Test {
        void run(Suite suite);
    }

    private int passed;
    private int failed;
    private boolean isTestFailed;
    private String current = "";

    void test(String name, Test body) {
        current = name;
        isTestFailed = false;
        try {
            body.run(this);
        } catch (RuntimeException | Error e) {
            complain("broke off with " + e + at(e));
        }
        if (isTestFailed) {
            failed++;
        } else {
            passed++;
        }
    }

    /** What a call answers, as a text; an exception as "throws.Name". */
    static String told(Call call) {
        try {
            return String.valueOf(call.answer());
        } catch (RuntimeException e) {
            return "throws." + e.getClass().getSimpleName();
        }
    }

    void due(String what, Object want, Call call) {
        String got = told(call);
        if (!got.equals(String.valueOf(want))) {
            complain(what + " answered " + got + ", due is " + want);
        }
    }

    void throwsState(String what, Call call) {
        due(what, "throws.IllegalStateException", call);
    }

    void throwsArgument(String what, Call call) {
        due(what, "throws.IllegalArgumentException", call);
    }

    void throwsIndex(String what, Call call) {
        due(what, "throws.IndexOutOfBoundsException", call);
    }

    void throwsElement(String what, Call call) {
        due(what, "throws.NoSuchElementException", call);
    }

    void complain(String complaint) {
        if (!isTestFailed) {
            System.out.println("FAILED " + current);
        }
        isTestFailed = true;
        System.out.println("    " + complaint);
    }

    boolean isTestFailed() {
        return isTestFailed;
    }

    boolean report() {
        System.out.println(passed + " passed, " + failed + " failed");
        return failed == 0;
    }

    private static String at(Throwable thrown) {
        StackTraceElement[] trace = thrown.getStackTrace();
        return trace.length == 0 ? "" : " at " + trace[0];
    }
}
