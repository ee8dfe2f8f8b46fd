/** Compares answers with those that are due, and ends a test with exit code 1 if one was wrong. */
final class Check {
    private int wrong = 0;

    void same(String what, Object got, Object due) {
        if (!due.equals(got)) {
            report(what + " answered " + got + ", due is " + due);
        }
    }

    /** The call must throw exactly this exception, no subclass of it, and leave the ledger as it was and consistent. */
    void refuses(String what, TimerLedger ledger, Class<? extends RuntimeException> due, Runnable call) {
        String before = Snapshot.of(ledger);
        try {
            call.run();
            report(what + " threw nothing, due is " + due.getName());
        } catch (RuntimeException thrown) {
            if (thrown.getClass() != due) {
                report(what + " threw " + thrown.getClass().getName() + ", due is " + due.getName());
            }
            if (!isThrownByTheClass(thrown)) {
                report(what + " left the throwing to the machine or the library");
            }
        }
        same(what + ": isConsistent afterwards", ledger.isConsistent(), true);
        if (!before.equals(Snapshot.of(ledger))) {
            report(what + " changed the ledger though it threw");
        }
    }

    /** An index that the class did not look at would be refused by an array or a list, with a trace that begins there. */
    static boolean isThrownByTheClass(Throwable thrown) {
        StackTraceElement[] trace = thrown.getStackTrace();
        return trace.length > 0 && trace[0].getClassName().startsWith("TimerLedger");
    }

    void refusesIndex(String what, TimerLedger ledger, Runnable call) {
        refuses(what, ledger, IndexOutOfBoundsException.class, call);
    }

    void refusesArgument(String what, TimerLedger ledger, Runnable call) {
        refuses(what, ledger, IllegalArgumentException.class, call);
    }

    void refusesState(String what, TimerLedger ledger, Runnable call) {
        refuses(what, ledger, IllegalStateException.class, call);
    }

    void report(String text) {
        wrong++;
        System.out.println(text);
    }

    void end() {
        System.out.println(wrong == 0 ? "all answers are as due" : wrong + " answers are not as due");
        if (wrong != 0) {
            System.exit(1);
        }
    }
}
