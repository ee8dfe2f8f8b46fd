/** Promises 20 and 21, with the rules of promise 4: the counted seconds of entries. */
public final class CountedTest {
    private static final Check check = new Check();

    public static void main(String[] args) {
        alone();
        fullRule();
        latestRule();
        latestRuleAmongEqualStarts();
        sharedRule();
        sharedRuleWithARest();
        sharedRuleWithAllEntries();
        runningAndRemovedOnes();
        frozenOnesAreFixedButActive();
        acrossDays();
        check.end();
    }

    private static TimerLedger withClients(int clients, int minutes) {
        TimerLedger ledger = new TimerLedger();
        for (int client = 0; client < clients; client++) {
            ledger.addClient(1, 'u', 'e', 6000);
        }
        ledger.pass(minutes);
        return ledger;
    }

    private static void seconds(String what, TimerLedger ledger, int... due) {
        for (int entry = 0; entry < due.length; entry++) {
            check.same(what + ": counted " + entry, ledger.counted(entry), due[entry]);
            check.same(what + ": countedByMinutes " + entry, ledger.countedByMinutes(entry), due[entry]);
        }
    }

    private static void alone() {
        TimerLedger ledger = withClients(1, 100);
        ledger.addEntry(0, 10, 40);
        ledger.addEntry(0, 50, 50);
        ledger.addEntry(0, 0, 1);
        for (char rule : new char[] {'f', 'l', 's'}) {
            ledger.setRule(rule);
            seconds("alone by " + rule, ledger, 1800, 0, 60);
        }
    }

    private static void fullRule() {
        TimerLedger ledger = withClients(2, 100);
        ledger.addEntry(0, 10, 40);
        ledger.addEntry(1, 20, 60);
        seconds("full", ledger, 1800, 2400);
    }

    private static void latestRule() {
        TimerLedger ledger = withClients(2, 100);
        ledger.addEntry(0, 10, 40);
        ledger.addEntry(1, 20, 30);
        ledger.addEntry(0, 0, 100);
        ledger.setRule('l');
        seconds("latest", ledger, 1200, 600, 4200);
        ledger.setStart(0, 25);
        seconds("latest after an edit", ledger, 900, 300, 4800);
    }

    private static void latestRuleAmongEqualStarts() {
        TimerLedger ledger = withClients(2, 100);
        ledger.addEntry(0, 10, 40);
        ledger.addEntry(1, 10, 30);
        ledger.setRule('l');
        seconds("latest among equals", ledger, 600, 1200);
    }

    private static void sharedRule() {
        TimerLedger ledger = withClients(3, 100);
        ledger.addEntry(0, 0, 30);
        ledger.addEntry(1, 10, 30);
        ledger.addEntry(2, 20, 40);
        ledger.setRule('s');
        seconds("shared", ledger, 600 + 300 + 200, 300 + 200, 200 + 600);
    }

    private static void sharedRuleWithARest() {
        TimerLedger ledger = withClients(1, 100);
        for (int entry = 0; entry < 7; entry++) {
            ledger.addEntry(0, 10 - entry, 11);
        }
        ledger.addEntry(0, 20, 30);
        ledger.setRule('s');
        int[] fromMinute10 = {9, 9, 9, 9, 8, 8, 8};
        for (int entry = 0; entry < 7; entry++) {
            ledger.setStart(entry, 10);
        }
        seconds("60 by 7", ledger, fromMinute10);
        ledger.remove(1);
        seconds("60 by 6 without entry 1", ledger, 10, 0, 10, 10, 10, 10, 10, 600);
        ledger.setStart(0, 11);
        ledger.setStart(7, 10);
        ledger.addEntry(0, 10, 11);
        seconds("the first ones by number, not by start", ledger, 0, 0, 9, 9, 9, 9, 8, 0 + 8 + 19 * 60, 8);
    }

    private static void sharedRuleWithAllEntries() {
        TimerLedger ledger = withClients(1, 100);
        int[] due = new int[24];
        for (int entry = 0; entry < 24; entry++) {
            ledger.addEntry(0, 5, 15);
            due[entry] = entry < 12 ? 30 : 20;
        }
        ledger.setRule('s');
        seconds("60 by 24", ledger, due);
    }

    private static void runningAndRemovedOnes() {
        TimerLedger ledger = withClients(1, 100);
        ledger.start(0);
        ledger.start(0);
        seconds("just started", ledger, 0, 0);
        ledger.pass(10);
        seconds("running, full", ledger, 600, 600);
        ledger.setRule('s');
        seconds("running, shared", ledger, 300, 300);
        ledger.stop(0);
        ledger.pass(10);
        seconds("one running", ledger, 300, 900);
        ledger.remove(1);
        seconds("one removed", ledger, 600, 0);
    }

    private static void frozenOnesAreFixedButActive() {
        TimerLedger ledger = withClients(2, 100);
        ledger.addEntry(0, 0, 20);
        ledger.addEntry(1, 10, 30);
        ledger.setRule('s');
        ledger.invoice(0);
        seconds("frozen while shared", ledger, 900, 900);
        ledger.setRule('l');
        seconds("the frozen one is fixed", ledger, 900, 1200);
        ledger.setStart(1, 0);
        seconds("and stays so when others change", ledger, 900, 1800);
        ledger.setRule('s');
        seconds("the frozen one is still active", ledger, 900, 600 + 600);
        ledger.remove(1);
        seconds("and stays so when others go", ledger, 900, 0);
        ledger.addEntry(1, 0, 20);
        check.same("frozen ones come first by number", ledger.counted(2), 600);
    }

    private static void acrossDays() {
        TimerLedger ledger = withClients(1, 600);
        for (int i = 0; i < 3; i++) {
            ledger.pass(600);
        }
        ledger.pass(599);
        ledger.addEntry(0, 0, 2999);
        ledger.addEntry(0, 599, 601);
        seconds("across days", ledger, 2999 * 60, 120);
        ledger.setRule('l');
        seconds("across days, latest", ledger, 2997 * 60, 120);
        ledger.setRule('s');
        seconds("across days, shared", ledger, 2998 * 60, 60);
    }
}
