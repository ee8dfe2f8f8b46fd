/** Ledgers as the tests of boundaries need them. */
final class Scenes {
    private static final char[] MODES = {'u', 'd', 'n', 'u', 'n'};
    private static final char[] LEVELS = {'e', 'c', 'd', 'e', 'c'};

    /** Without clients, at a minute. */
    static Scene minute(int minute) {
        return () -> {
            TimerLedger ledger = new TimerLedger();
            pass(ledger, minute);
            return ledger;
        };
    }

    static void pass(TimerLedger ledger, int minutes) {
        for (int left = minutes; left > 0; left -= 600) {
            ledger.pass(Math.min(left, 600));
        }
    }

    /** With one client, at a minute. */
    static Scene client(int unit, char mode, char level, int rate, int minute) {
        return minute(minute).then(x -> x.addClient(unit, mode, level, rate));
    }

    /** With one client, whose time is rounded to whole minutes at 100 cents each, at a minute. */
    static Scene client(int minute) {
        return client(1, 'u', 'e', 6000, minute);
    }

    /** The same, at the last minute, and with one ended entry. */
    static Scene entry(int start, int end) {
        return client(2999).then(x -> x.addEntry(0, start, end));
    }

    /** At minute 100; the client c has the unit c + 1, the rate 100 * (c + 1), the budget 10 + c, and the entry c, which covers the first 5 * (c + 1) minutes. */
    static Scene clients(int clients) {
        return minute(100)
            .thenTimes(clients, (x, client) -> x.addClient(client + 1, 'u', 'e', 100 * (client + 1)))
            .thenTimes(clients, (x, client) -> x.setBudget(client, 10 + client))
            .thenTimes(clients, (x, client) -> x.addEntry(client, 0, 5 * (client + 1)));
    }

    /** At minute 100, with one client; the entry e is ended and covers e + 1 minutes, from e up to 2 * e + 1. */
    static Scene entries(int entries) {
        return client(100).thenTimes(entries, (x, entry) -> x.addEntry(0, entry, 2 * entry + 1));
    }

    /** The same, with all entries frozen by one invoice, whose line l is about the entry l. */
    static Scene frozenEntries(int entries) {
        return entries(entries).thenTimes(entries > 0 ? 1 : 0, (x, time) -> x.invoice(0));
    }

    /** At minute 100, with one client; the entry e covers e + 1 minutes and is frozen by the invoice e. */
    static Scene invoices(int invoices) {
        return client(100).thenTimes(invoices, (x, invoice) -> x.addEntry(0, 0, invoice + 1) + x.invoice(0));
    }

    /** At minute 100, with one client and the frozen entry 0, which has been corrected by 1 as often as said. */
    static Scene corrections(int corrections) {
        return frozenEntries(1).thenTimes(corrections, (x, correction) -> x.correct(0, 1));
    }

    /** At minute 100, with one client and running entries. */
    static Scene running(int entries) {
        return client(100).thenTimes(entries, (x, entry) -> x.start(0));
    }

    /** At minute 100, with one client: the entry 0 runs since minute 90, 1 is frozen, 2 was removed, 3 was removed while it ran, 4 is ended. */
    static Scene allStates() {
        return client(90)
            .then(x -> x.start(0))
            .then(x -> x.addEntry(0, 60, 70)).then(x -> x.invoice(0))
            .then(x -> x.addEntry(0, 40, 50)).then(x -> x.remove(2))
            .then(x -> x.start(0)).then(x -> x.pass(5)).then(x -> x.remove(3))
            .then(x -> x.addEntry(0, 20, 30))
            .then(x -> x.pass(5));
    }

    /** So many entries of the first minute, by a rule. */
    static Scene inOneMinute(int entries, char rule) {
        return client(100).then(x -> x.setRule(rule)).thenTimes(entries, (x, entry) -> x.addEntry(0, 0, 1));
    }

    /** By the rule 's', the entry 7 of client 0 has so many counted seconds, 413 or more. */
    static Scene seconds(int unit, char mode, char level, int seconds) {
        // Each minute that eight entries share gives 7 seconds to the last of them, and 43 * 7 is 301.
        int shared = 43 * seconds % 60;
        int alone = (seconds - 7 * shared) / 60;
        return client(unit, mode, level, 6000, 2999)
            .then(x -> x.addClient(1, 'u', 'e', 0))
            .then(x -> x.setRule('s'))
            .thenTimes(7, (x, entry) -> x.addEntry(1, 0, shared))
            .then(x -> x.addEntry(0, 0, shared + alone));
    }

    /** Something of everything, with room for more: three clients, entries in all states, three invoices, corrections that wait and that do not. */
    static Scene busy() {
        return minute(700)
            .thenTimes(3, Scenes::addClient)
            .then(x -> x.setRule('s'))
            .then(x -> x.addEntry(0, 10, 40)).then(x -> x.addEntry(1, 20, 60)).then(x -> x.addEntry(2, 590, 620))
            .then(x -> x.invoice(0)).then(x -> x.invoice(1))
            .then(x -> x.correct(1, -9)).then(x -> x.correct(0, 7))
            .then(x -> x.addEntry(0, 30, 47)).then(x -> x.invoice(0)).then(x -> x.correct(3, 5))
            .then(x -> x.addEntry(1, 35, 52)).then(x -> x.addEntry(1, 60, 67)).then(x -> x.addEntry(0, 15, 48))
            .then(x -> x.addEntry(1, 100, 123)).then(x -> x.remove(7))
            .then(x -> x.start(0)).then(x -> x.start(2))
            .then(x -> x.pass(20)).then(x -> x.remove(9)).then(x -> x.start(2))
            .then(x -> x.pass(30)).then(x -> x.writeEntry(6));
    }

    /** As much as there can be: at minute 2999, with 5 clients, 24 entries of which 20 to 23 run, 8 invoices and 16 corrections. */
    static Scene full() {
        return minute(2500)
            .thenTimes(5, Scenes::addClient)
            .then(x -> x.setRule('s'))
            .thenTimes(8, Scenes::addInvoicedEntry)
            .thenTimes(11, (x, number) -> x.addEntry((number + 3) % 5, 190 * number + 90, 190 * number + 420))
            .then(x -> x.addEntry(0, 5, 50)).then(x -> x.remove(19))
            .thenTimes(4, (x, client) -> x.start(client))
            .then(x -> x.pass(499)).then(x -> x.writeEntry(23));
    }

    private static Object addClient(TimerLedger ledger, int client) {
        ledger.addClient(7 + 13 * client, MODES[client], LEVELS[client], 6000 + client);
        return ledger.setBudget(client, 100 * client * client);
    }

    private static Object addInvoicedEntry(TimerLedger ledger, int entry) {
        ledger.addEntry(entry % 5, 300 * entry, 300 * entry + 97 + entry);
        ledger.invoice(entry % 5);
        ledger.correct(entry, 10 * entry - 35);
        return ledger.correct(entry, 600 - entry);
    }
}
