/** Promises 10 to 19, 22 and 23: making, editing and removing entries, and the output line. */
public final class EntriesTest {
    private static final Check check = new Check();

    public static void main(String[] args) {
        starting();
        stopping();
        adding();
        startsAreSet();
        endsAreSet();
        removing();
        removedOnesKeepTheirNumbers();
        writing();
        check.end();
    }

    private static TimerLedger withClients(int clients, int minutes) {
        TimerLedger ledger = new TimerLedger();
        for (int client = 0; client < clients; client++) {
            ledger.addClient(15, 'u', 'e', 6000);
        }
        if (minutes > 0) {
            ledger.pass(minutes);
        }
        return ledger;
    }

    private static void starting() {
        TimerLedger ledger = withClients(2, 10);
        check.same("start", ledger.start(1), 0);
        check.same("state", ledger.state(0), 'r');
        check.same("start minute", ledger.startOf(0), 10);
        check.same("end is the present minute", ledger.endOf(0), 10);
        ledger.pass(7);
        check.same("start minute stays", ledger.startOf(0), 10);
        check.same("end moves on", ledger.endOf(0), 17);
        check.same("a second start", ledger.start(1), 1);
        check.same("entries", ledger.entries(), 2);
    }

    private static void stopping() {
        TimerLedger ledger = withClients(1, 3);
        ledger.start(0);
        ledger.start(0);
        check.same("stop at once", ledger.stop(1), 0);
        ledger.pass(20);
        check.same("stop", ledger.stop(0), 20);
        check.same("state", ledger.state(0), 'e');
        ledger.pass(5);
        check.same("the end stays", ledger.endOf(0), 23);
        ledger.start(0);
        ledger.setStart(2, 8);
        check.same("stop with a start set", ledger.stop(2), 20);
    }

    private static void adding() {
        TimerLedger ledger = withClients(2, 100);
        check.same("add", ledger.addEntry(1, 20, 50), 0);
        check.same("state", ledger.state(0), 'e');
        check.same("start", ledger.startOf(0), 20);
        check.same("end", ledger.endOf(0), 50);
        check.same("from minute 0 to now", ledger.addEntry(0, 0, 100), 1);
        check.same("empty at now", ledger.addEntry(0, 100, 100), 2);
        check.same("empty at 0", ledger.addEntry(0, 0, 0), 3);
        ledger.pass(9);
        check.same("an ended entry's end stays", ledger.endOf(1), 100);
    }

    private static void startsAreSet() {
        TimerLedger ledger = withClients(1, 100);
        ledger.addEntry(0, 20, 50);
        ledger.start(0);
        check.same("start 0", ledger.setStart(0, 0), 20);
        check.same("start at the end", ledger.setStart(0, 50), 0);
        check.same("start now set", ledger.startOf(0), 50);
        check.same("end stays", ledger.endOf(0), 50);
        check.same("of a running one", ledger.setStart(1, 40), 100);
        check.same("still running", ledger.state(1), 'r');
        ledger.pass(5);
        check.same("of a running one to now", ledger.setStart(1, 105), 40);
    }

    private static void endsAreSet() {
        TimerLedger ledger = withClients(1, 100);
        ledger.addEntry(0, 20, 50);
        ledger.start(0);
        check.same("end at now", ledger.setEnd(0, 100), 50);
        check.same("end at the start", ledger.setEnd(0, 20), 100);
        check.same("end now set", ledger.endOf(0), 20);
        check.same("start stays", ledger.startOf(0), 20);
    }

    private static void removing() {
        TimerLedger ledger = withClients(1, 100);
        ledger.addEntry(0, 20, 50);
        ledger.start(0);
        ledger.addEntry(0, 30, 40);
        ledger.pass(10);
        check.same("remove a running one", ledger.remove(1), 2);
        check.same("remove an ended one", ledger.remove(0), 1);
        ledger.pass(10);
        check.same("state", ledger.state(1), 'x');
        check.same("start of a removed one", ledger.startOf(1), 100);
        check.same("end is the minute of the removal", ledger.endOf(1), 110);
        check.same("end of a removed ended one", ledger.endOf(0), 50);
        check.same("counted", ledger.counted(0), 0);
        ledger.addEntry(0, 0, 1);
        ledger.invoice(0);
        ledger.addEntry(0, 0, 1);
        check.same("frozen ones are not removed", ledger.remove(4), 2);
    }

    private static void removedOnesKeepTheirNumbers() {
        TimerLedger ledger = withClients(1, 100);
        ledger.addEntry(0, 20, 50);
        ledger.addEntry(0, 30, 40);
        ledger.remove(0);
        check.same("entries counts removed ones", ledger.entries(), 2);
        check.same("numbers stay", ledger.startOf(1), 30);
        check.same("the next number", ledger.addEntry(0, 1, 2), 2);
    }

    private static void writing() {
        TimerLedger ledger = withClients(3, 100);
        for (int entry = 0; entry < 3; entry++) {
            ledger.addEntry(2, 0, 0);
        }
        ledger.addEntry(1, 60, 75);
        check.same("the example's length", ledger.writeEntry(3), 13);
        check.same("the example", Snapshot.outputOf(ledger), "3e1:60-75=900");
        ledger.remove(3);
        check.same("the line stays until the next one", Snapshot.outputOf(ledger), "3e1:60-75=900");
        check.same("length of a removed one", ledger.writeEntry(3), 11);
        check.same("a removed one", Snapshot.outputOf(ledger), "3x1:60-75=0");
        ledger.start(0);
        ledger.pass(20);
        check.same("length of a running one", ledger.writeEntry(4), 16);
        check.same("a running one", Snapshot.outputOf(ledger), "4r0:100-120=1200");
        ledger.invoice(2);
        check.same("length of a frozen one", ledger.writeEntry(0), 9);
        check.same("a frozen one", Snapshot.outputOf(ledger), "0f2:0-0=0");
        check.same("a character", ledger.charAt(2), '2');
        check.same("the last character", ledger.charAt(8), '0');
    }
}
