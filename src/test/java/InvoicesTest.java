/** Promises 29 to 38: invoices and their lines. */
public final class InvoicesTest {
    private static final Check check = new Check();

    public static void main(String[] args) {
        entryLines();
        carriedLines();
        runningOnesAreLeftOutButActive();
        dayLines();
        dayLinesWithoutSeconds();
        correctionLines();
        correctionsAlone();
        amounts();
        totalsAreSumsOfFloats();
        totalsOfPowersOfTwo();
        negativeTotals();
        laterChanges();
        check.end();
    }

    private static TimerLedger withClient(int unit, char mode, char level, int rate, int minutes) {
        TimerLedger ledger = new TimerLedger();
        ledger.addClient(unit, mode, level, rate);
        for (int left = minutes; left > 0; left -= 600) {
            ledger.pass(Math.min(left, 600));
        }
        return ledger;
    }

    private static void total(String what, TimerLedger ledger, int invoice, float due) {
        check.same(what + ": total", ledger.total(invoice), due);
        check.same(what + ": totalBits", ledger.totalBits(invoice), Float.floatToIntBits(due));
        check.same(what + ": totalCents", ledger.totalCents(invoice), (int) due);
    }

    private static void entryLines() {
        TimerLedger ledger = withClient(15, 'u', 'e', 6000, 200);
        ledger.addClient(1, 'u', 'e', 1);
        ledger.addEntry(0, 50, 66);
        ledger.addEntry(1, 0, 10);
        ledger.addEntry(0, 10, 20);
        ledger.addEntry(0, 10, 10);
        ledger.addEntry(0, 0, 5);
        ledger.remove(4);
        ledger.start(0);
        check.same("invoice", ledger.invoice(0), 0);
        check.same("invoices", ledger.invoices(), 1);
        check.same("lines", ledger.lines(0), 3);
        check.same("the lines in their order", Snapshot.linesOf(ledger, 0), "e2:15 e3:0 e0:30");
        check.same("a first amount", ledger.lineAmount(0, 0), 1500.0f);
        total("entries", ledger, 0, 4500.0f);
        String states = "" + ledger.state(0) + ledger.state(1) + ledger.state(2) + ledger.state(3) + ledger.state(4) + ledger.state(5);
        check.same("states", states, "feffxr");
        ledger.stop(5);
        check.same("a second invoice", ledger.invoice(0), 1);
        check.same("only what is new", Snapshot.linesOf(ledger, 1), "e5:0");
        check.same("another client's", ledger.invoice(1), 2);
        check.same("another client's lines", Snapshot.linesOf(ledger, 2), "e1:10");
        check.same("invoices", ledger.invoices(), 3);
    }

    private static void carriedLines() {
        TimerLedger ledger = withClient(10, 'u', 'c', 600, 200);
        ledger.addEntry(0, 20, 24);
        ledger.addEntry(0, 0, 4);
        ledger.addEntry(0, 10, 14);
        ledger.invoice(0);
        check.same("carried lines", Snapshot.linesOf(ledger, 0), "e1:10 e2:0 e0:10");
        ledger.addEntry(0, 30, 31);
        ledger.invoice(0);
        check.same("nothing is carried to the next invoice", Snapshot.linesOf(ledger, 1), "e3:10");
    }

    private static void runningOnesAreLeftOutButActive() {
        TimerLedger ledger = withClient(10, 'u', 'c', 600, 100);
        ledger.start(0);
        ledger.setStart(0, 50);
        ledger.addEntry(0, 60, 80);
        ledger.setRule('s');
        check.same("with the running one before it", ledger.rounded(1), 10);
        ledger.setRounding(0, 25, 'u', 'c');
        check.same("carried after the running one", ledger.rounded(1), 50 - 50);
        ledger.invoice(0);
        check.same("without it", Snapshot.linesOf(ledger, 0), "e1:25");
        check.same("but shared with it", ledger.counted(1), 600);
        check.same("it runs on", ledger.state(0), 'r');
    }

    private static void dayLines() {
        TimerLedger ledger = withClient(15, 'n', 'd', 600, 2000);
        ledger.addEntry(0, 1200, 1205);
        ledger.addEntry(0, 590, 610);
        ledger.addEntry(0, 0, 10);
        ledger.start(0);
        ledger.setStart(3, 1900);
        ledger.invoice(0);
        check.same("a line for each day", Snapshot.linesOf(ledger, 0), "d0:15 d1:15 d2:0");
        total("days", ledger, 0, 300.0f);
    }

    private static void dayLinesWithoutSeconds() {
        TimerLedger ledger = withClient(15, 'u', 'd', 600, 700);
        ledger.addEntry(0, 20, 20);
        check.same("an empty entry can be invoiced", ledger.invoice(0), 0);
        check.same("no lines", ledger.lines(0), 0);
        total("no lines", ledger, 0, 0.0f);
        check.same("frozen", ledger.state(0), 'f');
        ledger.setRule('l');
        ledger.addEntry(0, 590, 620);
        ledger.addClient(1, 'u', 'e', 0);
        ledger.addEntry(1, 590, 600);
        ledger.invoice(0);
        check.same("a day covered but not counted has no line", Snapshot.linesOf(ledger, 1), "d1:30");
        ledger.setRounding(0, 15, 'u', 'e');
        check.same("consistent after a change of level", ledger.isConsistent(), true);
    }

    private static void correctionLines() {
        TimerLedger ledger = withClient(15, 'u', 'e', 600, 700);
        ledger.addClient(15, 'u', 'e', 600);
        ledger.addEntry(0, 0, 15);
        ledger.addEntry(0, 20, 30);
        ledger.addEntry(1, 20, 30);
        ledger.invoice(0);
        ledger.invoice(1);
        ledger.correct(1, -20);
        ledger.correct(2, 7);
        ledger.correct(0, 600);
        ledger.correct(1, 1);
        ledger.addEntry(0, 100, 130);
        ledger.invoice(0);
        check.same("corrections follow in their order", Snapshot.linesOf(ledger, 2), "e3:30 c1:-20 c0:600 c1:1");
        check.same("amount of a correction", ledger.lineAmount(2, 1), -200.0f);
        total("corrections", ledger, 2, 300.0f - 200.0f + 6000.0f + 10.0f);
        ledger.addEntry(0, 100, 130);
        ledger.invoice(0);
        check.same("corrections come once", Snapshot.linesOf(ledger, 3), "e4:30");
        ledger.invoice(1);
        check.same("the other client's correction", Snapshot.linesOf(ledger, 4), "c2:7");
    }

    private static void correctionsAlone() {
        TimerLedger ledger = withClient(15, 'u', 'd', 600, 700);
        ledger.addEntry(0, 0, 15);
        ledger.invoice(0);
        ledger.correct(0, 5);
        check.same("an invoice of a correction alone", ledger.invoice(0), 1);
        check.same("its line", Snapshot.linesOf(ledger, 1), "c0:5");
    }

    private static void amounts() {
        TimerLedger ledger = withClient(1, 'u', 'e', 49999, 2999);
        ledger.addEntry(0, 0, 2999);
        ledger.addEntry(0, 1, 8);
        ledger.invoice(0);
        check.same("minutes times rate, then divided", ledger.lineAmount(0, 0), 2999f * 49999f / 60.0f);
        check.same("a fraction", ledger.lineAmount(0, 1), 7f * 49999f / 60.0f);
        total("fractions", ledger, 0, 2999f * 49999f / 60.0f + 7f * 49999f / 60.0f);
        ledger.setRate(0, 1);
        ledger.addEntry(0, 1, 2);
        ledger.invoice(0);
        total("a sixtieth", ledger, 1, 1f / 60.0f);
        ledger.setRate(0, 0);
        ledger.correct(0, -5);
        ledger.invoice(0);
        check.same("nothing, from below", ledger.lineAmount(2, 0), -0.0f);
        total("nothing", ledger, 2, 0.0f);
    }

    private static void totalsAreSumsOfFloats() {
        TimerLedger ledger = withClient(1, 'u', 'e', 50000, 2999);
        float due = 0.0f;
        for (int entry = 0; entry < 24; entry++) {
            ledger.addEntry(0, entry, 2999);
            due += (float) (2999 - entry) * 50000f / 60.0f;
        }
        ledger.invoice(0);
        total("a great total", ledger, 0, due);
    }

    private static void totalsOfPowersOfTwo() {
        int[] rates = {15, 30, 60, 120, 240, 480, 960, 30720};
        float[] dues = {0.25f, 0.5f, 1.0f, 2.0f, 4.0f, 8.0f, 16.0f, 512.0f};
        for (int i = 0; i < rates.length; i++) {
            TimerLedger ledger = withClient(1, 'u', 'e', rates[i], 100);
            ledger.addEntry(0, 0, 1);
            ledger.invoice(0);
            total("a power of two", ledger, 0, dues[i]);
            ledger.correct(0, -1);
            ledger.invoice(0);
            total("a negative power of two", ledger, 1, -dues[i]);
        }
    }

    private static void negativeTotals() {
        TimerLedger ledger = withClient(1, 'u', 'e', 7777, 700);
        ledger.addEntry(0, 0, 1);
        ledger.invoice(0);
        ledger.correct(0, -599);
        ledger.correct(0, 13);
        ledger.invoice(0);
        total("negative", ledger, 1, -599f * 7777f / 60.0f + 13f * 7777f / 60.0f);
        check.same("cents are cut off towards 0", ledger.totalCents(1), -75955);
    }

    private static void laterChanges() {
        TimerLedger ledger = withClient(15, 'u', 'e', 6000, 100);
        ledger.addEntry(0, 0, 16);
        ledger.addEntry(0, 0, 16);
        ledger.invoice(0);
        ledger.setRate(0, 1);
        ledger.setRounding(0, 1, 'd', 'd');
        ledger.setRule('s');
        ledger.correct(0, 5);
        ledger.pass(100);
        check.same("lines stay", Snapshot.linesOf(ledger, 0), "e0:30 e1:30");
        check.same("amounts stay", ledger.lineAmount(0, 1), 3000.0f);
        total("stays", ledger, 0, 6000.0f);
    }
}
