/** Promises 10 to 19, 22 and 23: making, editing and removing entries, and the output line. */
public final class EntriesTest {
    private static final Check check = new Check();

    public static void main(String[] args) {
        starting();
        startingIsRefused();
        stopping();
        adding();
        addingIsRefused();
        startsAreSet();
        endsAreSet();
        removing();
        removedOnesKeepTheirNumbers();
        queriesAreRefused();
        writing();
        writingIsRefused();
        check.end();
    }

    private static TimerLedger withClients(int clients, int minutes) {
        TimerLedger ledger = new TimerLedger();
        for (int client = 0; client < clients; client++) {
            ledger.addClient(15, 'u', 'e', 6000);
        }
        if (minutes > 0) {
            ledger.pass(minutes);
        }
        return ledger;
    }

    private static void starting() {
        TimerLedger ledger = withClients(2, 10);
        check.same("start", ledger.start(1), 0);
        check.same("state", ledger.state(0), 'r');
        check.same("start minute", ledger.startOf(0), 10);
        check.same("end is the present minute", ledger.endOf(0), 10);
        ledger.pass(7);
        check.same("start minute stays", ledger.startOf(0), 10);
        check.same("end moves on", ledger.endOf(0), 17);
        check.same("a second start", ledger.start(1), 1);
        check.same("entries", ledger.entries(), 2);
    }

    private static void startingIsRefused() {
        TimerLedger ledger = withClients(1, 10);
        check.refusesIndex("client 1", ledger, () -> ledger.start(1));
        check.refusesIndex("client -1", ledger, () -> ledger.start(-1));
        for (int i = 0; i < 4; i++) {
            ledger.start(0);
        }
        check.refusesState("a fifth running entry", ledger, () -> ledger.start(0));
        check.refusesIndex("a fifth running entry of no client", ledger, () -> ledger.start(1));
        ledger.stop(2);
        check.same("start after a stop", ledger.start(0), 4);
        ledger.remove(0);
        check.same("start after a removal", ledger.start(0), 5);
        TimerLedger full = withClients(1, 10);
        for (int i = 0; i < 24; i++) {
            full.addEntry(0, 0, 5);
        }
        check.refusesState("start as entry 24", full, () -> full.start(0));
        full.remove(3);
        check.refusesState("removed entries still count", full, () -> full.start(0));
    }

    private static void stopping() {
        TimerLedger ledger = withClients(1, 3);
        ledger.start(0);
        ledger.start(0);
        check.same("stop at once", ledger.stop(1), 0);
        ledger.pass(20);
        check.same("stop", ledger.stop(0), 20);
        check.same("state", ledger.state(0), 'e');
        ledger.pass(5);
        check.same("the end stays", ledger.endOf(0), 23);
        check.refusesState("stop again", ledger, () -> ledger.stop(0));
        check.refusesIndex("entry 2", ledger, () -> ledger.stop(2));
        check.refusesIndex("entry -1", ledger, () -> ledger.stop(-1));
        ledger.start(0);
        ledger.setStart(2, 8);
        check.same("stop with a start set", ledger.stop(2), 20);
        ledger.start(0);
        ledger.remove(3);
        check.refusesState("stop a removed one", ledger, () -> ledger.stop(3));
        ledger.invoice(0);
        check.refusesState("stop a frozen one", ledger, () -> ledger.stop(0));
    }

    private static void adding() {
        TimerLedger ledger = withClients(2, 100);
        check.same("add", ledger.addEntry(1, 20, 50), 0);
        check.same("state", ledger.state(0), 'e');
        check.same("start", ledger.startOf(0), 20);
        check.same("end", ledger.endOf(0), 50);
        check.same("from minute 0 to now", ledger.addEntry(0, 0, 100), 1);
        check.same("empty at now", ledger.addEntry(0, 100, 100), 2);
        check.same("empty at 0", ledger.addEntry(0, 0, 0), 3);
        ledger.pass(9);
        check.same("an ended entry's end stays", ledger.endOf(1), 100);
    }

    private static void addingIsRefused() {
        TimerLedger ledger = withClients(1, 100);
        check.refusesIndex("client 1", ledger, () -> ledger.addEntry(1, 0, 1));
        check.refusesIndex("client -1 and minutes out of range", ledger, () -> ledger.addEntry(-1, 5, 1));
        check.refusesArgument("start -1", ledger, () -> ledger.addEntry(0, -1, 5));
        check.refusesArgument("end before start", ledger, () -> ledger.addEntry(0, 5, 4));
        check.refusesArgument("end after now", ledger, () -> ledger.addEntry(0, 5, 101));
        check.refusesArgument("both after now", ledger, () -> ledger.addEntry(0, 101, 101));
        for (int i = 0; i < 24; i++) {
            check.same("an entry", ledger.addEntry(0, i, i + 1), i);
        }
        check.refusesState("entry 24", ledger, () -> ledger.addEntry(0, 0, 1));
        check.refusesArgument("entry 24 with a wrong minute", ledger, () -> ledger.addEntry(0, 0, 101));
        check.same("entries", ledger.entries(), 24);
    }

    private static void startsAreSet() {
        TimerLedger ledger = withClients(1, 100);
        ledger.addEntry(0, 20, 50);
        ledger.start(0);
        check.same("start 0", ledger.setStart(0, 0), 20);
        check.same("start at the end", ledger.setStart(0, 50), 0);
        check.same("start now set", ledger.startOf(0), 50);
        check.same("end stays", ledger.endOf(0), 50);
        check.same("of a running one", ledger.setStart(1, 40), 100);
        check.same("still running", ledger.state(1), 'r');
        ledger.pass(5);
        check.same("of a running one to now", ledger.setStart(1, 105), 40);
        check.refusesArgument("after the end", ledger, () -> ledger.setStart(0, 51));
        check.refusesArgument("after now", ledger, () -> ledger.setStart(1, 106));
        check.refusesArgument("-1", ledger, () -> ledger.setStart(0, -1));
        check.refusesIndex("entry 2", ledger, () -> ledger.setStart(2, -1));
        check.refusesIndex("entry -1", ledger, () -> ledger.setStart(-1, 0));
        ledger.remove(1);
        check.refusesState("of a removed one", ledger, () -> ledger.setStart(1, -1));
        ledger.invoice(0);
        check.refusesState("of a frozen one", ledger, () -> ledger.setStart(0, 51));
    }

    private static void endsAreSet() {
        TimerLedger ledger = withClients(1, 100);
        ledger.addEntry(0, 20, 50);
        ledger.start(0);
        check.same("end at now", ledger.setEnd(0, 100), 50);
        check.same("end at the start", ledger.setEnd(0, 20), 100);
        check.same("end now set", ledger.endOf(0), 20);
        check.same("start stays", ledger.startOf(0), 20);
        check.refusesArgument("before the start", ledger, () -> ledger.setEnd(0, 19));
        check.refusesArgument("after now", ledger, () -> ledger.setEnd(0, 101));
        check.refusesState("of a running one", ledger, () -> ledger.setEnd(1, 100));
        check.refusesState("of a running one, out of range", ledger, () -> ledger.setEnd(1, 101));
        check.refusesIndex("entry 2", ledger, () -> ledger.setEnd(2, 101));
        check.refusesIndex("entry -1", ledger, () -> ledger.setEnd(-1, 50));
        ledger.remove(1);
        check.refusesState("of a removed one", ledger, () -> ledger.setEnd(1, 100));
        ledger.invoice(0);
        check.refusesState("of a frozen one", ledger, () -> ledger.setEnd(0, 30));
    }

    private static void removing() {
        TimerLedger ledger = withClients(1, 100);
        ledger.addEntry(0, 20, 50);
        ledger.start(0);
        ledger.addEntry(0, 30, 40);
        ledger.pass(10);
        check.same("remove a running one", ledger.remove(1), 2);
        check.same("remove an ended one", ledger.remove(0), 1);
        ledger.pass(10);
        check.same("state", ledger.state(1), 'x');
        check.same("start of a removed one", ledger.startOf(1), 100);
        check.same("end is the minute of the removal", ledger.endOf(1), 110);
        check.same("end of a removed ended one", ledger.endOf(0), 50);
        check.same("counted", ledger.counted(0), 0);
        check.refusesState("remove again", ledger, () -> ledger.remove(0));
        check.refusesIndex("entry 3", ledger, () -> ledger.remove(3));
        check.refusesIndex("entry -1", ledger, () -> ledger.remove(-1));
        ledger.addEntry(0, 0, 1);
        ledger.invoice(0);
        check.refusesState("remove a frozen one", ledger, () -> ledger.remove(2));
        ledger.addEntry(0, 0, 1);
        check.same("frozen ones are not removed", ledger.remove(4), 2);
    }

    private static void removedOnesKeepTheirNumbers() {
        TimerLedger ledger = withClients(1, 100);
        ledger.addEntry(0, 20, 50);
        ledger.addEntry(0, 30, 40);
        ledger.remove(0);
        check.same("entries counts removed ones", ledger.entries(), 2);
        check.same("numbers stay", ledger.startOf(1), 30);
        check.same("the next number", ledger.addEntry(0, 1, 2), 2);
    }

    private static void queriesAreRefused() {
        TimerLedger ledger = withClients(1, 100);
        check.refusesIndex("state without entries", ledger, () -> ledger.state(0));
        ledger.addEntry(0, 20, 50);
        for (int entry : new int[] {-1, 1, 24, Integer.MAX_VALUE, Integer.MIN_VALUE}) {
            check.refusesIndex("state " + entry, ledger, () -> ledger.state(entry));
            check.refusesIndex("startOf " + entry, ledger, () -> ledger.startOf(entry));
            check.refusesIndex("endOf " + entry, ledger, () -> ledger.endOf(entry));
            check.refusesIndex("counted " + entry, ledger, () -> ledger.counted(entry));
            check.refusesIndex("countedByMinutes " + entry, ledger, () -> ledger.countedByMinutes(entry));
        }
        check.same("state ended", ledger.state(0), 'e');
        ledger.invoice(0);
        check.same("state frozen", ledger.state(0), 'f');
        check.same("start frozen", ledger.startOf(0), 20);
        check.same("end frozen", ledger.endOf(0), 50);
    }

    private static void writing() {
        TimerLedger ledger = withClients(3, 100);
        for (int entry = 0; entry < 3; entry++) {
            ledger.addEntry(2, 0, 0);
        }
        ledger.addEntry(1, 60, 75);
        check.same("the example's length", ledger.writeEntry(3), 13);
        check.same("the example", Snapshot.outputOf(ledger), "3e1:60-75=900");
        ledger.remove(3);
        check.same("the line stays until the next one", Snapshot.outputOf(ledger), "3e1:60-75=900");
        check.same("length of a removed one", ledger.writeEntry(3), 11);
        check.same("a removed one", Snapshot.outputOf(ledger), "3x1:60-75=0");
        ledger.start(0);
        ledger.pass(20);
        check.same("length of a running one", ledger.writeEntry(4), 16);
        check.same("a running one", Snapshot.outputOf(ledger), "4r0:100-120=1200");
        ledger.invoice(2);
        check.same("length of a frozen one", ledger.writeEntry(0), 9);
        check.same("a frozen one", Snapshot.outputOf(ledger), "0f2:0-0=0");
        check.same("a character", ledger.charAt(2), '2');
        check.same("the last character", ledger.charAt(8), '0');
    }

    private static void writingIsRefused() {
        TimerLedger ledger = withClients(1, 100);
        check.refusesIndex("charAt 0 of the empty line", ledger, () -> ledger.charAt(0));
        ledger.addEntry(0, 20, 50);
        int length = ledger.writeEntry(0);
        check.refusesIndex("writeEntry 1", ledger, () -> ledger.writeEntry(1));
        check.refusesIndex("writeEntry -1", ledger, () -> ledger.writeEntry(-1));
        check.refusesIndex("charAt -1", ledger, () -> ledger.charAt(-1));
        check.refusesIndex("charAt the length", ledger, () -> ledger.charAt(length));
        check.same("the line after refusals", Snapshot.outputOf(ledger), "0e0:20-50=1800");
    }
}
