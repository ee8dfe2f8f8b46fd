/**
 * The terms' sentence "If several conditions for an exception hold, the exception that is listed
 * first is thrown": every call with more than one exception, with two and more of their conditions at
 * once, and beside it the same call with the first condition taken away.
 */
public final class FirstExceptionTest {
    private static final Check check = new Check();
    private static final Class<IllegalArgumentException> ARGUMENT = IllegalArgumentException.class;
    private static final Class<IllegalStateException> STATE = IllegalStateException.class;
    private static final Class<IndexOutOfBoundsException> INDEX = IndexOutOfBoundsException.class;

    public static void main(String[] args) {
        pass();
        addClient();
        setRounding();
        setRate();
        setBudget();
        start();
        stop();
        addEntry();
        setStart();
        setEnd();
        remove();
        rounded();
        daySeconds();
        invoice();
        linesOfInvoices();
        correct();
        budgetShare();
        check.end();
    }

    private static void sentence(String promise, String order) {
        check.sentence(promise + ": " + order + "; Terms: the exception that is listed first is thrown");
    }

    private static void pass() {
        sentence("Promise 3, pass", "IllegalArgumentException, then IllegalStateException");
        check.refuses("601 behind 2999", Scenes.minute(2999), ARGUMENT, x -> x.pass(601));
        check.refuses("601 behind 2399", Scenes.minute(2399), ARGUMENT, x -> x.pass(601));
        check.refuses("600 behind 2400", Scenes.minute(2400), STATE, x -> x.pass(600));
        check.refuses("the greatest int", Scenes.minute(2999), ARGUMENT, x -> x.pass(Integer.MAX_VALUE));
    }

    private static void addClient() {
        sentence("Promise 5, addClient", "IllegalArgumentException, then IllegalStateException");
        Scene five = Scenes.clients(5);
        check.refuses("unit 0", five, ARGUMENT, x -> x.addClient(0, 'u', 'e', 0));
        check.refuses("unit 61", five, ARGUMENT, x -> x.addClient(61, 'u', 'e', 0));
        check.refuses("no mode", five, ARGUMENT, x -> x.addClient(1, 'x', 'e', 0));
        check.refuses("no level", five, ARGUMENT, x -> x.addClient(1, 'u', 'x', 0));
        check.refuses("rate -1", five, ARGUMENT, x -> x.addClient(1, 'u', 'e', -1));
        check.refuses("rate 50001", five, ARGUMENT, x -> x.addClient(1, 'u', 'e', 50001));
        check.refuses("nothing wrong", five, STATE, x -> x.addClient(1, 'u', 'e', 0));
    }

    private static void setRounding() {
        sentence("Promise 7, setRounding", "IndexOutOfBoundsException, then IllegalArgumentException");
        for (int client : new int[] {-1, 2}) {
            check.refuses("unit 0", Scenes.clients(2), INDEX, x -> x.setRounding(client, 0, 'u', 'e'));
            check.refuses("unit 61", Scenes.clients(2), INDEX, x -> x.setRounding(client, 61, 'u', 'e'));
            check.refuses("no mode", Scenes.clients(2), INDEX, x -> x.setRounding(client, 1, 'x', 'e'));
            check.refuses("no level", Scenes.clients(2), INDEX, x -> x.setRounding(client, 1, 'u', 'x'));
        }
        check.refuses("unit 0 of a client", Scenes.clients(2), ARGUMENT, x -> x.setRounding(1, 0, 'u', 'e'));
    }

    private static void setRate() {
        sentence("Promise 8, setRate", "IndexOutOfBoundsException, then IllegalArgumentException");
        check.refuses("rate -1 of client -1", Scenes.clients(2), INDEX, x -> x.setRate(-1, -1));
        check.refuses("rate 50001 of client 2", Scenes.clients(2), INDEX, x -> x.setRate(2, 50001));
        check.refuses("rate 50001 of client 1", Scenes.clients(2), ARGUMENT, x -> x.setRate(1, 50001));
    }

    private static void setBudget() {
        sentence("Promise 9, setBudget", "IndexOutOfBoundsException, then IllegalArgumentException");
        check.refuses("budget -1 of client -1", Scenes.clients(2), INDEX, x -> x.setBudget(-1, -1));
        check.refuses("budget 10000 of client 2", Scenes.clients(2), INDEX, x -> x.setBudget(2, 10000));
        check.refuses("budget 10000 of client 1", Scenes.clients(2), ARGUMENT, x -> x.setBudget(1, 10000));
    }

    private static void start() {
        sentence("Promise 10, start", "IndexOutOfBoundsException, then IllegalStateException");
        check.refuses("a 25th entry of no client", Scenes.entries(24), INDEX, x -> x.start(1));
        check.refuses("a 25th entry of client -1", Scenes.entries(24), INDEX, x -> x.start(-1));
        check.refuses("a 25th entry of a client", Scenes.entries(24), STATE, x -> x.start(0));
        check.refuses("a fifth running one of no client", Scenes.running(4), INDEX, x -> x.start(1));
        check.refuses("a fifth running one of a client", Scenes.running(4), STATE, x -> x.start(0));
        check.refuses("a 25th entry and a fifth running one of no client", Scenes.full(), INDEX, x -> x.start(5));
        check.refuses("a 25th entry and a fifth running one of a client", Scenes.full(), STATE, x -> x.start(4));
    }

    private static void stop() {
        sentence("Promise 11, stop", "IndexOutOfBoundsException, then IllegalStateException");
        check.refuses("no entry, so none that runs", Scenes.allStates(), INDEX, x -> x.stop(5));
        check.refuses("an entry that does not run", Scenes.allStates(), STATE, x -> x.stop(4));
    }

    private static void addEntry() {
        sentence("Promise 12, addEntry", "IndexOutOfBoundsException, then IllegalArgumentException, then IllegalStateException");
        Scene most = Scenes.entries(24);
        for (int client : new int[] {-1, 1}) {
            check.refuses("no client, start -1", Scenes.entries(3), INDEX, x -> x.addEntry(client, -1, 5));
            check.refuses("no client, end before start", Scenes.entries(3), INDEX, x -> x.addEntry(client, 5, 4));
            check.refuses("no client, end behind now", Scenes.entries(3), INDEX, x -> x.addEntry(client, 5, 101));
            check.refuses("no client, a 25th entry", most, INDEX, x -> x.addEntry(client, 0, 1));
            check.refuses("no client, a 25th entry, end behind now", most, INDEX, x -> x.addEntry(client, 5, 101));
        }
        check.refuses("a 25th entry, start -1", most, ARGUMENT, x -> x.addEntry(0, -1, 5));
        check.refuses("a 25th entry, end before start", most, ARGUMENT, x -> x.addEntry(0, 5, 4));
        check.refuses("a 25th entry, end behind now", most, ARGUMENT, x -> x.addEntry(0, 5, 101));
        check.refuses("a 25th entry", most, STATE, x -> x.addEntry(0, 5, 100));
    }

    private static void setStart() {
        sentence("Promise 13, setStart", "IndexOutOfBoundsException, then IllegalStateException, then IllegalArgumentException");
        for (int minute : new int[] {-1, 3000}) {
            check.refuses("no entry, minute " + minute, Scenes.allStates(), INDEX, x -> x.setStart(5, minute));
            check.refuses("entry -1, minute " + minute, Scenes.allStates(), INDEX, x -> x.setStart(-1, minute));
            check.refuses("frozen, minute " + minute, Scenes.allStates(), STATE, x -> x.setStart(1, minute));
            check.refuses("removed, minute " + minute, Scenes.allStates(), STATE, x -> x.setStart(2, minute));
            check.refuses("removed while it ran, minute " + minute, Scenes.allStates(), STATE, x -> x.setStart(3, minute));
            check.refuses("running, minute " + minute, Scenes.allStates(), ARGUMENT, x -> x.setStart(0, minute));
            check.refuses("ended, minute " + minute, Scenes.allStates(), ARGUMENT, x -> x.setStart(4, minute));
        }
    }

    private static void setEnd() {
        sentence("Promise 14, setEnd", "IndexOutOfBoundsException, then IllegalStateException, then IllegalArgumentException");
        for (int minute : new int[] {-1, 3000}) {
            check.refuses("no entry, minute " + minute, Scenes.allStates(), INDEX, x -> x.setEnd(5, minute));
            check.refuses("entry -1, minute " + minute, Scenes.allStates(), INDEX, x -> x.setEnd(-1, minute));
            check.refuses("running, minute " + minute, Scenes.allStates(), STATE, x -> x.setEnd(0, minute));
            check.refuses("frozen, minute " + minute, Scenes.allStates(), STATE, x -> x.setEnd(1, minute));
            check.refuses("removed, minute " + minute, Scenes.allStates(), STATE, x -> x.setEnd(2, minute));
            check.refuses("removed while it ran, minute " + minute, Scenes.allStates(), STATE, x -> x.setEnd(3, minute));
            check.refuses("ended, minute " + minute, Scenes.allStates(), ARGUMENT, x -> x.setEnd(4, minute));
        }
    }

    private static void remove() {
        sentence("Promise 15, remove", "IndexOutOfBoundsException, then IllegalStateException");
        check.refuses("no entry behind 24 removed ones", Scenes.entries(24).thenTimes(24, (x, entry) -> x.remove(entry)), INDEX, x -> x.remove(24));
        check.refuses("a removed one", Scenes.entries(24).thenTimes(24, (x, entry) -> x.remove(entry)), STATE, x -> x.remove(23));
    }

    private static void rounded() {
        sentence("Promise 24, rounded", "IndexOutOfBoundsException, then IllegalStateException, then UnsupportedOperationException");
        Scene byDay = Scenes.allStates().then(x -> x.setRounding(0, 1, 'u', 'd'));
        check.refuses("no entry", byDay, INDEX, x -> x.rounded(5));
        check.refuses("entry -1", byDay, INDEX, x -> x.rounded(-1));
        check.refuses("frozen, by day", byDay, STATE, x -> x.rounded(1));
        check.refuses("removed, by day", byDay, STATE, x -> x.rounded(2));
        check.refuses("removed while it ran, by day", byDay, STATE, x -> x.rounded(3));
        check.refuses("running, by day", byDay, UnsupportedOperationException.class, x -> x.rounded(0));
        check.refuses("ended, by day", byDay, UnsupportedOperationException.class, x -> x.rounded(4));
    }

    private static void daySeconds() {
        for (int day : new int[] {-1, 5}) {
            sentence("Promise 25, daySeconds", "IndexOutOfBoundsException, then IllegalArgumentException");
            check.refuses("client -1, day " + day, Scenes.clients(2), INDEX, x -> x.daySeconds(-1, day));
            check.refuses("client 2, day " + day, Scenes.clients(2), INDEX, x -> x.daySeconds(2, day));
            check.refuses("client 1, day " + day, Scenes.clients(2), ARGUMENT, x -> x.daySeconds(1, day));
            sentence("Promise 26, daySecondsByMinutes", "IndexOutOfBoundsException, then IllegalArgumentException");
            check.refuses("client -1, day " + day, Scenes.clients(2), INDEX, x -> x.daySecondsByMinutes(-1, day));
            check.refuses("client 2, day " + day, Scenes.clients(2), INDEX, x -> x.daySecondsByMinutes(2, day));
            check.refuses("client 1, day " + day, Scenes.clients(2), ARGUMENT, x -> x.daySecondsByMinutes(1, day));
        }
    }

    private static void invoice() {
        sentence("Promise 29, invoice", "IndexOutOfBoundsException, then IllegalStateException");
        check.refuses("a ninth one of no client", Scenes.invoices(8), INDEX, x -> x.invoice(1));
        check.refuses("a ninth one of client -1", Scenes.invoices(8), INDEX, x -> x.invoice(-1));
        check.refuses("a ninth one of a client", Scenes.invoices(8).then(x -> x.addEntry(0, 0, 1)), STATE, x -> x.invoice(0));
        check.refuses("no client, so nothing to invoice", TimerLedger::new, INDEX, x -> x.invoice(0));
        check.refuses("a client with nothing to invoice", Scenes.client(0), STATE, x -> x.invoice(0));
    }

    private static void linesOfInvoices() {
        sentence("Promises 32 to 35", "IndexOutOfBoundsException for the invoice and for the line");
        check.refuses("lineKind", Scenes.invoices(2), INDEX, x -> x.lineKind(2, 1));
        check.refuses("lineMinutes", Scenes.invoices(2), INDEX, x -> x.lineMinutes(2, 1));
        check.refuses("lineSubject", Scenes.invoices(2), INDEX, x -> x.lineSubject(-1, -1));
        check.refuses("lineAmount", Scenes.invoices(2), INDEX, x -> x.lineAmount(-1, -1));
    }

    private static void correct() {
        sentence("Promise 39, correct", "IndexOutOfBoundsException, then IllegalArgumentException, then IllegalStateException");
        for (int minutes : new int[] {-601, 0, 601}) {
            check.refuses("no entry, by " + minutes, Scenes.allStates(), INDEX, x -> x.correct(5, minutes));
            check.refuses("entry -1, by " + minutes, Scenes.allStates(), INDEX, x -> x.correct(-1, minutes));
            check.refuses("running, by " + minutes, Scenes.allStates(), ARGUMENT, x -> x.correct(0, minutes));
            check.refuses("removed, by " + minutes, Scenes.allStates(), ARGUMENT, x -> x.correct(2, minutes));
            check.refuses("ended, by " + minutes, Scenes.allStates(), ARGUMENT, x -> x.correct(4, minutes));
            check.refuses("a 17th correction, by " + minutes, Scenes.corrections(16), ARGUMENT, x -> x.correct(0, minutes));
        }
        check.refuses("a 17th correction of no entry", Scenes.corrections(16), INDEX, x -> x.correct(1, 1));
        check.refuses("a 17th correction of no entry, by 0", Scenes.corrections(16), INDEX, x -> x.correct(1, 0));
        check.refuses("a 17th correction", Scenes.corrections(16), STATE, x -> x.correct(0, 1));
        check.refuses("ended", Scenes.allStates(), STATE, x -> x.correct(4, 1));
    }

    private static void budgetShare() {
        sentence("Promise 41, budgetShare", "IndexOutOfBoundsException, then ArithmeticException");
        check.refuses("no client, so no budget", TimerLedger::new, INDEX, x -> x.budgetShare(0));
        check.refuses("client 1 beside one without a budget", Scenes.client(0), INDEX, x -> x.budgetShare(1));
        check.refuses("client -1 beside one without a budget", Scenes.client(0), INDEX, x -> x.budgetShare(-1));
        check.refuses("a client without a budget", Scenes.client(0), ArithmeticException.class, x -> x.budgetShare(0));
    }
}
