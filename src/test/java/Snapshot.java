import java.util.List;

/**
 * All that can be asked of a ledger. Each part is for a new ledger, so that the calls that make it
 * and those of the part stay below the 512 for which the document promises answers.
 */
final class Snapshot {
    /** A part of what can be asked, as one text. */
    interface Part {
        String of(TimerLedger ledger);
    }

    static final List<Part> PARTS = List.of(
        Snapshot::counts,
        Snapshot::entries,
        ledger -> writtenEntries(ledger, 0, 12),
        ledger -> writtenEntries(ledger, 12, 24),
        Snapshot::clients,
        Snapshot::invoices,
        Snapshot::settings,
        Snapshot::laterCalls);

    /** The answer of a call, or the exception that it throws. */
    static Object answer(TimerLedger ledger, Scene.Call call) {
        try {
            return call.on(ledger);
        } catch (RuntimeException thrown) {
            return thrown.getClass();
        }
    }

    /** The output line, read up to its end. */
    static String outputOf(TimerLedger ledger) {
        StringBuilder text = new StringBuilder();
        try {
            for (int i = 0; i < 100; i++) {
                text.append(ledger.charAt(i));
            }
        } catch (IndexOutOfBoundsException end) {
            return text.toString();
        }
        return text.toString();
    }

    /** The output line behind writeEntry. */
    static String written(TimerLedger ledger, int entry) {
        int length = ledger.writeEntry(entry);
        StringBuilder text = new StringBuilder();
        for (int i = 0; i < length; i++) {
            text.append(ledger.charAt(i));
        }
        return text.toString();
    }

    /** The lines of an invoice: kind, subject and minutes of each. */
    static String linesOf(TimerLedger ledger, int invoice) {
        StringBuilder text = new StringBuilder();
        int lines = ledger.lines(invoice);
        for (int line = 0; line < lines; line++) {
            text.append(line == 0 ? "" : " ").append(ledger.lineKind(invoice, line));
            text.append(ledger.lineSubject(invoice, line)).append(':').append(ledger.lineMinutes(invoice, line));
        }
        return text.toString();
    }

    /** The states of all entries, a letter for each. */
    static String statesOf(TimerLedger ledger) {
        StringBuilder text = new StringBuilder();
        int entries = ledger.entries();
        for (int entry = 0; entry < entries; entry++) {
            text.append(ledger.state(entry));
        }
        return text.toString();
    }

    private static void add(StringBuilder text, TimerLedger ledger, Scene.Call call) {
        text.append(answer(ledger, call)).append(' ');
    }

    private static String counts(TimerLedger ledger) {
        StringBuilder text = new StringBuilder("line '").append(outputOf(ledger)).append("' ");
        add(text, ledger, x -> x.now());
        add(text, ledger, x -> x.clients());
        add(text, ledger, x -> x.entries());
        add(text, ledger, x -> x.invoices());
        add(text, ledger, x -> x.isConsistent());
        add(text, ledger, x -> x.meanMinutes());
        add(text, ledger, x -> x.meanBits());
        return text.toString();
    }

    private static String entries(TimerLedger ledger) {
        StringBuilder text = new StringBuilder();
        int entries = ledger.entries();
        for (int i = 0; i < entries; i++) {
            int entry = i;
            text.append("entry ").append(entry).append(' ');
            add(text, ledger, x -> x.state(entry));
            add(text, ledger, x -> x.startOf(entry));
            add(text, ledger, x -> x.endOf(entry));
            add(text, ledger, x -> x.counted(entry));
            add(text, ledger, x -> x.countedByMinutes(entry));
            add(text, ledger, x -> x.rounded(entry));
        }
        return text.toString();
    }

    private static String writtenEntries(TimerLedger ledger, int from, int to) {
        StringBuilder text = new StringBuilder();
        int entries = ledger.entries();
        for (int entry = from; entry < to && entry < entries; entry++) {
            text.append(written(ledger, entry)).append(' ');
        }
        return text.toString();
    }

    private static String clients(TimerLedger ledger) {
        StringBuilder text = new StringBuilder();
        int clients = ledger.clients();
        for (int i = 0; i < clients; i++) {
            int client = i;
            text.append("client ").append(client).append(' ');
            add(text, ledger, x -> x.openMinutes(client));
            add(text, ledger, x -> x.openMinutesByLines(client));
            add(text, ledger, x -> x.usedMinutes(client));
            add(text, ledger, x -> x.budgetShare(client));
            add(text, ledger, x -> x.warning(client));
            for (int j = 0; j < 5; j++) {
                int day = j;
                add(text, ledger, x -> x.daySeconds(client, day));
                add(text, ledger, x -> x.daySecondsByMinutes(client, day));
            }
        }
        return text.toString();
    }

    private static String invoices(TimerLedger ledger) {
        StringBuilder text = new StringBuilder();
        int invoices = ledger.invoices();
        for (int invoice = 0; invoice < invoices; invoice++) {
            text.append("invoice ").append(linesOf(ledger, invoice)).append(' ');
            int lines = ledger.lines(invoice);
            for (int line = 0; line < lines; line++) {
                text.append(ledger.lineAmount(invoice, line)).append(' ');
            }
            text.append(ledger.total(invoice)).append(' ').append(ledger.totalBits(invoice)).append(' ').append(ledger.totalCents(invoice));
        }
        return text.toString();
    }

    /** What the settings were, as the calls that change them tell it. */
    private static String settings(TimerLedger ledger) {
        StringBuilder text = new StringBuilder();
        text.append(ledger.setRule('f'));
        int clients = ledger.clients();
        for (int client = 0; client < clients; client++) {
            text.append(' ').append(ledger.setRounding(client, 1, 'u', 'e'));
            text.append(' ').append(ledger.setRate(client, 0));
            text.append(' ').append(ledger.setBudget(client, 0));
        }
        return text.toString();
    }

    /** What later calls answer: entries are corrected, added and invoiced, and minutes pass. */
    private static String laterCalls(TimerLedger ledger) {
        StringBuilder text = new StringBuilder();
        int entries = ledger.entries();
        for (int i = 0; i < entries; i++) {
            int entry = i;
            add(text, ledger, x -> x.correct(entry, 1));
        }
        int clients = ledger.clients();
        for (int i = 0; i < clients; i++) {
            int client = i;
            add(text, ledger, x -> x.addEntry(client, 0, 1));
            add(text, ledger, x -> x.openMinutes(client));
            add(text, ledger, x -> x.addEntry(client, 0, 5));
            add(text, ledger, x -> x.openMinutes(client));
            add(text, ledger, x -> linesOf(x, x.invoice(client)));
            add(text, ledger, x -> x.start(client));
        }
        add(text, ledger, x -> x.pass(1));
        add(text, ledger, x -> statesOf(x));
        add(text, ledger, x -> x.addClient(1, 'u', 'e', 1));
        return text.toString();
    }
}
