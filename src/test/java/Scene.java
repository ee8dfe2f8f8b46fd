/** A ledger as a test needs it, made anew each time. */
interface Scene {
    /** A call of a ledger. */
    interface Call {
        Object on(TimerLedger ledger);
    }

    /** A call of a ledger that takes a number. */
    interface NumberedCall {
        Object on(TimerLedger ledger, int number);
    }

    TimerLedger make();

    /** The same with one more call, which must be allowed. */
    default Scene then(Call call) {
        return () -> {
            TimerLedger ledger = make();
            call.on(ledger);
            return ledger;
        };
    }

    /** The same with one more call for each of the first numbers. */
    default Scene thenTimes(int times, NumberedCall call) {
        return () -> {
            TimerLedger ledger = make();
            for (int number = 0; number < times; number++) {
                call.on(ledger, number);
            }
            return ledger;
        };
    }
}
