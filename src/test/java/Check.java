/** Counts what a test looked at and prints what is not as due. */
final class Check {
    /** A call whose answer, or whose exception, is looked at. */
    interface Call {
        long run();
    }

    private int passed = 0;
    private int failed = 0;

    void due(String what, long want, long got) {
        if (want == got) {
            passed++;
        } else {
            failed++;
            System.out.println(what + ": answered " + got + ", due is " + want);
        }
    }

    void holds(String what, boolean held) {
        due(what, 1, held ? 1 : 0);
    }

    void dueIndex(String what, Call call) {
        dueThrow(what, IndexOutOfBoundsException.class, call);
    }

    void dueArgument(String what, Call call) {
        dueThrow(what, IllegalArgumentException.class, call);
    }

    /** The exception must be of this very class: the machine's own are of classes below it. */
    private void dueThrow(String what, Class<?> want, Call call) {
        String got;
        try {
            got = "answered " + call.run();
        } catch (RuntimeException thrown) {
            if (thrown.getClass() == want) {
                passed++;
                return;
            }
            got = "threw " + thrown;
        }
        failed++;
        System.out.println(what + ": " + got + ", due is " + want.getSimpleName());
    }

    /** Ends the test's program. */
    void end() {
        System.out.println(passed + " passed, " + failed + " failed");
        if (failed != 0 || passed == 0) {
            System.exit(1);
        }
    }
}
