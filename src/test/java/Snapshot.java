/** All that the queries of a ledger answer, as one text. */
final class Snapshot {
    static String of(TimerLedger ledger) {
        StringBuilder text = new StringBuilder();
        text.append(ledger.now()).append(' ').append(ledger.isConsistent()).append('\n');
        for (int client = 0; client < ledger.clients(); client++) {
            text.append(clientText(ledger, client)).append('\n');
        }
        for (int entry = 0; entry < ledger.entries(); entry++) {
            text.append(entryText(ledger, entry)).append('\n');
        }
        for (int invoice = 0; invoice < ledger.invoices(); invoice++) {
            text.append(invoiceText(ledger, invoice)).append('\n');
        }
        return text.append(outputOf(ledger)).toString();
    }

    /** The output line, read up to its end. */
    static String outputOf(TimerLedger ledger) {
        StringBuilder text = new StringBuilder();
        try {
            for (int i = 0; i < 1000; i++) {
                text.append(ledger.charAt(i));
            }
        } catch (IndexOutOfBoundsException end) {
            return text.toString();
        }
        return text.toString();
    }

    /** The lines of an invoice: kind, subject and minutes of each. */
    static String linesOf(TimerLedger ledger, int invoice) {
        StringBuilder text = new StringBuilder();
        for (int line = 0; line < ledger.lines(invoice); line++) {
            text.append(line == 0 ? "" : " ").append(ledger.lineKind(invoice, line));
            text.append(ledger.lineSubject(invoice, line)).append(':').append(ledger.lineMinutes(invoice, line));
        }
        return text.toString();
    }

    private static String clientText(TimerLedger ledger, int client) {
        StringBuilder text = new StringBuilder("client ");
        text.append(ledger.openMinutes(client)).append(' ').append(ledger.usedMinutes(client)).append(' ').append(ledger.warning(client));
        for (int day = 0; day < 5; day++) {
            text.append(' ').append(ledger.daySeconds(client, day));
        }
        return text.toString();
    }

    private static String entryText(TimerLedger ledger, int entry) {
        return "entry " + ledger.state(entry) + ledger.startOf(entry) + '-' + ledger.endOf(entry) + '=' + ledger.counted(entry);
    }

    private static String invoiceText(TimerLedger ledger, int invoice) {
        StringBuilder text = new StringBuilder("invoice ").append(linesOf(ledger, invoice));
        for (int line = 0; line < ledger.lines(invoice); line++) {
            text.append(' ').append(ledger.lineAmount(invoice, line));
        }
        return text.append(" total ").append(ledger.total(invoice)).toString();
    }
}
