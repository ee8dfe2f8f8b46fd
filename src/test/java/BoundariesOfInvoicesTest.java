/** The boundaries that the promises 29 to 38 name: invoices, their lines and their totals. */
public final class BoundariesOfInvoicesTest {
    private static final Check check = new Check();

    public static void main(String[] args) {
        promise29NoSuchClient();
        promise29EightInvoices();
        promise29NothingToInvoice();
        promise30Invoices();
        promise31Lines();
        promise31NoSuchInvoice();
        promise32Kinds();
        promise32NoSuchInvoice();
        promise32CountedFrom0();
        promise32NoSuchLine();
        promise33NoSuchInvoice();
        promise33CountedFrom0();
        promise33NoSuchLine();
        promise34Subjects();
        promise34NoSuchInvoice();
        promise34CountedFrom0();
        promise34NoSuchLine();
        promise35NoSuchInvoice();
        promise35CountedFrom0();
        promise35NoSuchLine();
        promise36NoSuchInvoice();
        promise37Bits();
        promise37NoSuchInvoice();
        promise38CutOff();
        promise38NoSuchInvoice();
        check.end();
    }

    private static void promise29NoSuchClient() {
        check.sentence("Promise 29, invoice: Throws IndexOutOfBoundsException if there is no such client");
        check.numbers("client", Scenes::clients, 5, (x, client) -> Snapshot.linesOf(x, x.invoice(client)), client -> "e" + client + ":" + 5 * (client + 1));
    }

    private static void promise29EightInvoices() {
        check.sentence("Promise 29, invoice: Throws IllegalStateException if there are 8 invoices");
        check.answers("behind 7, with an ended entry", Scenes.invoices(7).then(x -> x.addEntry(0, 0, 1)), x -> x.invoice(0), 7);
        check.answers("behind 7, with a correction", Scenes.invoices(7).then(x -> x.correct(0, 1)), x -> x.invoice(0), 7);
        check.refusesState("behind 8, with an ended entry", Scenes.invoices(8).then(x -> x.addEntry(0, 0, 1)), x -> x.invoice(0));
        check.refusesState("behind 8, with a correction", Scenes.invoices(8).then(x -> x.correct(0, 1)), x -> x.invoice(0));
        Scene another = Scenes.invoices(8).then(x -> x.addClient(1, 'u', 'e', 0)).then(x -> x.addEntry(1, 0, 1));
        check.refusesState("behind 8 of another client", another, x -> x.invoice(1));
    }

    private static void promise29NothingToInvoice() {
        check.sentence("Promise 29, invoice: or the client has neither an ended entry nor a correction that was not in an invoice yet");
        check.refusesState("no entry at all", Scenes.entries(0), x -> x.invoice(0));
        check.answers("an ended entry", Scenes.entries(1), x -> x.invoice(0), 0);
        check.answers("an empty ended entry", Scenes.entry(0, 0), x -> x.invoice(0), 0);
        check.refusesState("a running entry", Scenes.running(1), x -> x.invoice(0));
        check.answers("a stopped entry", Scenes.running(1).then(x -> x.stop(0)), x -> x.invoice(0), 0);
        check.refusesState("a removed entry", Scenes.entries(1).then(x -> x.remove(0)), x -> x.invoice(0));
        check.refusesState("a frozen entry", Scenes.frozenEntries(1), x -> x.invoice(0));
        check.answers("a correction", Scenes.corrections(1), x -> x.invoice(0), 1);
        check.refusesState("a correction that was in an invoice", Scenes.corrections(1).then(x -> x.invoice(0)), x -> x.invoice(0));
        Scene other = Scenes.clients(2).then(x -> x.invoice(0)).then(x -> x.invoice(1)).then(x -> x.correct(1, 7));
        check.refusesState("another client's correction", other, x -> x.invoice(0));
        check.answers("its own correction", other, x -> x.invoice(1), 2);
        check.refusesState("another client's ended entry", Scenes.clients(2).then(x -> x.invoice(0)), x -> x.invoice(0));
        check.answers("its own ended entry", Scenes.clients(2).then(x -> x.invoice(0)), x -> x.invoice(1), 1);
    }

    private static void promise30Invoices() {
        check.sentence("Promise 30, invoices: Returns the number of invoices");
        for (int invoices : new int[] {0, 1, 7, 8}) {
            check.answers("of " + invoices, Scenes.invoices(invoices), x -> x.invoices(), invoices);
        }
        check.refusesState("one that is refused does not count", Scenes.invoices(8), x -> x.invoice(0));
    }

    /** An invoice of 24 entries, and one of all corrections. */
    private static Scene longInvoices() {
        return Scenes.frozenEntries(24).thenTimes(16, (x, number) -> x.correct(number, number - 600)).then(x -> x.invoice(0));
    }

    /** One invoice of 23 entries and 16 corrections, behind one of an entry. */
    private static Scene longestInvoice() {
        return Scenes.corrections(16).thenTimes(23, (x, number) -> x.addEntry(0, number, 100)).then(x -> x.invoice(0));
    }

    private static void promise31Lines() {
        check.sentence("Promise 31, lines: Returns the number of lines");
        check.answers("no lines", Scenes.client(1, 'u', 'd', 0, 100).then(x -> x.addEntry(0, 5, 5)).then(x -> x.invoice(0)), x -> x.lines(0), 0);
        check.answers("one line", Scenes.frozenEntries(1), x -> x.lines(0), 1);
        check.answers("24 entries", longInvoices(), x -> x.lines(0), 24);
        check.answers("16 corrections", longInvoices(), x -> x.lines(1), 16);
        check.answers("23 entries and 16 corrections", longestInvoice(), x -> x.lines(1), 39);
    }

    private static void promise31NoSuchInvoice() {
        check.sentence("Promise 31, lines: Throws IndexOutOfBoundsException if there is no such invoice");
        check.numbers("invoice", Scenes::invoices, 8, (x, invoice) -> x.lines(invoice), invoice -> 1);
    }

    private static void promise32Kinds() {
        check.sentence("Promise 32, lineKind: Returns 'e', 'd' or 'c'");
        check.answers("the last line of an entry", longestInvoice(), x -> x.lineKind(1, 22), 'e');
        check.answers("the first line of a correction", longestInvoice(), x -> x.lineKind(1, 23), 'c');
        Scene byDay = Scenes.entry(599, 601).then(x -> x.setRounding(0, 1, 'u', 'd')).then(x -> x.invoice(0));
        check.answers("the first line of a day", byDay, x -> x.lineKind(0, 0), 'd');
        check.answers("the last line of a day", byDay, x -> x.lineKind(0, 1), 'd');
    }

    private static void promise32NoSuchInvoice() {
        check.sentence("Promise 32, lineKind: Throws IndexOutOfBoundsException if there is no such invoice");
        check.numbers("invoice", Scenes::invoices, 8, (x, invoice) -> x.lineKind(invoice, 0), invoice -> 'e');
    }

    /** The invoice 1 of the entry 1 and of a correction of the entry 0. */
    private static Scene entryAndCorrection() {
        return Scenes.frozenEntries(1).then(x -> x.addEntry(0, 5, 6)).then(x -> x.correct(0, -600)).then(x -> x.invoice(0));
    }

    /** Invoice 0 with so many lines; with none, it is about an empty entry, by day. */
    private static Scene lines(int lines) {
        if (lines > 0) {
            return Scenes.frozenEntries(lines);
        }
        return Scenes.client(1, 'u', 'd', 0, 100).then(x -> x.addEntry(0, 5, 5)).then(x -> x.invoice(0));
    }

    private static void promise32CountedFrom0() {
        check.sentence("Promise 32, lineKind: `line`: the line, counted from 0");
        check.answers("the first line", entryAndCorrection(), x -> x.lineKind(1, 0), 'e');
        check.answers("the second line", entryAndCorrection(), x -> x.lineKind(1, 1), 'c');
        check.refusesIndex("none before them", entryAndCorrection(), x -> x.lineKind(1, -1));
        check.refusesIndex("none behind them", entryAndCorrection(), x -> x.lineKind(1, 2));
    }

    private static void promise32NoSuchLine() {
        check.sentence("Promise 32, lineKind: Throws IndexOutOfBoundsException if there is .. no such line");
        check.numbers("line", BoundariesOfInvoicesTest::lines, 24, (x, line) -> x.lineKind(0, line), line -> 'e');
        check.answers("38 of 39", longestInvoice(), x -> x.lineKind(1, 38), 'c');
        check.refusesIndex("39 of 39", longestInvoice(), x -> x.lineKind(1, 39));
        check.refusesIndex("1 of a shorter invoice", longestInvoice(), x -> x.lineKind(0, 1));
    }

    private static void promise33NoSuchInvoice() {
        check.sentence("Promise 33, lineMinutes: Throws IndexOutOfBoundsException if there is no such invoice");
        check.numbers("invoice", Scenes::invoices, 8, (x, invoice) -> x.lineMinutes(invoice, 0), invoice -> invoice + 1);
    }

    private static void promise33CountedFrom0() {
        check.sentence("Promise 33, lineMinutes: `line`: the line, counted from 0");
        check.answers("the first line", entryAndCorrection(), x -> x.lineMinutes(1, 0), 1);
        check.answers("the second line", entryAndCorrection(), x -> x.lineMinutes(1, 1), -600);
        check.refusesIndex("none before them", entryAndCorrection(), x -> x.lineMinutes(1, -1));
        check.refusesIndex("none behind them", entryAndCorrection(), x -> x.lineMinutes(1, 2));
    }

    private static void promise33NoSuchLine() {
        check.sentence("Promise 33, lineMinutes: Throws IndexOutOfBoundsException if there is .. no such line");
        check.numbers("line", BoundariesOfInvoicesTest::lines, 24, (x, line) -> x.lineMinutes(0, line), line -> line + 1);
        check.answers("38 of 39", longestInvoice(), x -> x.lineMinutes(1, 38), 1);
        check.refusesIndex("39 of 39", longestInvoice(), x -> x.lineMinutes(1, 39));
        check.refusesIndex("1 of a shorter invoice", longestInvoice(), x -> x.lineMinutes(0, 1));
    }

    private static void promise34Subjects() {
        check.sentence("Promise 34, lineSubject: Returns the entry for a line 'e', the day for a line 'd', the corrected entry for a line 'c'");
        check.answers("the last entry", longInvoices(), x -> x.lineSubject(0, 23), 23);
        check.answers("the first corrected entry", longInvoices(), x -> x.lineSubject(1, 0), 0);
        check.answers("the last corrected entry", longInvoices(), x -> x.lineSubject(1, 15), 15);
        Scene allDays = Scenes.entry(0, 2999).then(x -> x.setRounding(0, 1, 'u', 'd')).then(x -> x.invoice(0));
        check.answers("the first day", allDays, x -> x.lineSubject(0, 0), 0);
        check.answers("the last day", allDays, x -> x.lineSubject(0, 4), 4);
        Scene lastDay = Scenes.entry(2400, 2401).then(x -> x.setRounding(0, 1, 'u', 'd')).then(x -> x.invoice(0));
        check.answers("the last day alone", lastDay, x -> x.lineSubject(0, 0), 4);
    }

    private static void promise34NoSuchInvoice() {
        check.sentence("Promise 34, lineSubject: Throws IndexOutOfBoundsException if there is no such invoice");
        check.numbers("invoice", Scenes::invoices, 8, (x, invoice) -> x.lineSubject(invoice, 0), invoice -> invoice);
    }

    private static void promise34CountedFrom0() {
        check.sentence("Promise 34, lineSubject: `line`: the line, counted from 0");
        check.answers("the first line", entryAndCorrection(), x -> x.lineSubject(1, 0), 1);
        check.answers("the second line", entryAndCorrection(), x -> x.lineSubject(1, 1), 0);
        check.refusesIndex("none before them", entryAndCorrection(), x -> x.lineSubject(1, -1));
        check.refusesIndex("none behind them", entryAndCorrection(), x -> x.lineSubject(1, 2));
    }

    private static void promise34NoSuchLine() {
        check.sentence("Promise 34, lineSubject: Throws IndexOutOfBoundsException if there is .. no such line");
        check.numbers("line", BoundariesOfInvoicesTest::lines, 24, (x, line) -> x.lineSubject(0, line), line -> line);
        check.answers("22 of 39", longestInvoice(), x -> x.lineSubject(1, 22), 23);
        check.refusesIndex("39 of 39", longestInvoice(), x -> x.lineSubject(1, 39));
        check.refusesIndex("1 of a shorter invoice", longestInvoice(), x -> x.lineSubject(0, 1));
    }

    private static void promise35NoSuchInvoice() {
        check.sentence("Promise 35, lineAmount: Throws IndexOutOfBoundsException if there is no such invoice");
        check.numbers("invoice", Scenes::invoices, 8, (x, invoice) -> x.lineAmount(invoice, 0), invoice -> 100.0f * (invoice + 1));
    }

    private static void promise35CountedFrom0() {
        check.sentence("Promise 35, lineAmount: `line`: the line, counted from 0");
        check.answers("the first line", entryAndCorrection(), x -> x.lineAmount(1, 0), 100.0f);
        check.answers("the second line", entryAndCorrection(), x -> x.lineAmount(1, 1), -60000.0f);
        check.refusesIndex("none before them", entryAndCorrection(), x -> x.lineAmount(1, -1));
        check.refusesIndex("none behind them", entryAndCorrection(), x -> x.lineAmount(1, 2));
    }

    private static void promise35NoSuchLine() {
        check.sentence("Promise 35, lineAmount: Throws IndexOutOfBoundsException if there is .. no such line");
        check.numbers("line", BoundariesOfInvoicesTest::lines, 24, (x, line) -> x.lineAmount(0, line), line -> 100.0f * (line + 1));
        check.answers("38 of 39", longestInvoice(), x -> x.lineAmount(1, 38), 100.0f);
        check.refusesIndex("39 of 39", longestInvoice(), x -> x.lineAmount(1, 39));
        check.refusesIndex("1 of a shorter invoice", longestInvoice(), x -> x.lineAmount(0, 1));
    }

    private static void promise36NoSuchInvoice() {
        check.sentence("Promise 36, total: Throws IndexOutOfBoundsException if there is no such invoice");
        check.numbers("invoice", Scenes::invoices, 8, (x, invoice) -> x.total(invoice), invoice -> 100.0f * (invoice + 1));
    }

    /** The invoice 1 of a correction alone. */
    private static Scene corrected(int minutes, int rate) {
        return Scenes.frozenEntries(1).then(x -> x.setRate(0, rate)).then(x -> x.correct(0, minutes)).then(x -> x.invoice(0));
    }

    private static void promise37Bits() {
        check.sentence("Promise 37, totalBits: Returns the bits of the total of an invoice, as by Float.floatToIntBits");
        for (int rate : new int[] {0, 1, 2, 15, 30, 59, 60, 61, 119, 120, 121, 30720, 49999, 50000}) {
            for (int minutes : new int[] {-600, -59, -2, -1, 1, 2, 59, 600}) {
                float due = 0.0f + (float) minutes * (float) rate / 60.0f;
                check.answers(minutes + " minutes at the rate " + rate, corrected(minutes, rate), x -> x.totalBits(1), Float.floatToIntBits(due));
            }
        }
        Scene greatest = Scenes.client(1, 'u', 'e', 50000, 2999).thenTimes(24, (x, entry) -> x.addEntry(0, 0, 2999)).then(x -> x.invoice(0));
        float sum = 0.0f;
        for (int entry = 0; entry < 24; entry++) {
            sum = sum + 2999.0f * 50000.0f / 60.0f;
        }
        check.answers("the greatest total", greatest, x -> x.totalBits(0), Float.floatToIntBits(sum));
        check.answers("the greatest total: cents", greatest, x -> x.totalCents(0), (int) sum);
        Scene least = Scenes.frozenEntries(1).then(x -> x.setRate(0, 50000)).thenTimes(16, (x, time) -> x.correct(0, -600)).then(x -> x.invoice(0));
        check.answers("the least total", least, x -> x.totalBits(1), Float.floatToIntBits(-8000000.0f));
        check.answers("the least total: cents", least, x -> x.totalCents(1), -8000000);
    }

    private static void promise37NoSuchInvoice() {
        check.sentence("Promise 37, totalBits: Throws IndexOutOfBoundsException if there is no such invoice");
        check.numbers("invoice", Scenes::invoices, 8, (x, invoice) -> x.totalBits(invoice), invoice -> Float.floatToIntBits(100.0f * (invoice + 1)));
    }

    private static void promise38CutOff() {
        check.sentence("Promise 38, totalCents: Returns the total of an invoice converted to int by a cast, which cuts off the fraction");
        int[][] ratesAndCents = {{0, 0}, {59, 0}, {60, 1}, {61, 1}, {119, 1}, {120, 2}};
        for (int[] row : ratesAndCents) {
            check.answers("a minute at the rate " + row[0], corrected(1, row[0]), x -> x.totalCents(1), row[1]);
            check.answers("a minute less at the rate " + row[0], corrected(-1, row[0]), x -> x.totalCents(1), -row[1]);
        }
    }

    private static void promise38NoSuchInvoice() {
        check.sentence("Promise 38, totalCents: Throws IndexOutOfBoundsException if there is no such invoice");
        check.numbers("invoice", Scenes::invoices, 8, (x, invoice) -> x.totalCents(invoice), invoice -> 100 * (invoice + 1));
    }
}
