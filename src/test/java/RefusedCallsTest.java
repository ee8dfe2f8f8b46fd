/**
 * The terms' sentence "A method that throws an exception changes nothing": for each exception of
 * each promise, all that can be asked of the object is the same as if the call had not been made.
 * On the other side of the sentence, a call that throws nothing does change what it is to change.
 */
public final class RefusedCallsTest {
    private static final Check check = new Check();
    private static final Class<IllegalArgumentException> ARGUMENT = IllegalArgumentException.class;
    private static final Class<IllegalStateException> STATE = IllegalStateException.class;
    private static final Class<IndexOutOfBoundsException> INDEX = IndexOutOfBoundsException.class;

    public static void main(String[] args) {
        timeAndRule();
        newClients();
        changesOfClients();
        newEntries();
        changesOfEntries();
        limitsOfEntries();
        questionsOfEntries();
        outputLine();
        openTime();
        invoices();
        linesOfInvoices();
        corrections();
        budgetsAndMeans();
        allowedCallsChangeSomething();
        check.end();
    }

    private static void sentence(String promise) {
        check.sentence(promise + "; Terms: A method that throws an exception changes nothing");
    }

    /** Refused by an object with something of everything, and by one with as much as there can be. */
    private static void refused(String what, Class<? extends RuntimeException> due, Scene.Call call) {
        check.refuses(what + " of a busy object", Scenes.busy(), due, call);
        check.refuses(what + " of a full object", Scenes.full(), due, call);
    }

    private static void refusedByFull(String what, Class<? extends RuntimeException> due, Scene.Call call) {
        check.refuses(what + " of a full object", Scenes.full(), due, call);
    }

    private static void refusedByBusy(String what, Class<? extends RuntimeException> due, Scene.Call call) {
        check.refuses(what + " of a busy object", Scenes.busy(), due, call);
    }

    private static void timeAndRule() {
        sentence("Promise 3, pass");
        refused("0 minutes", ARGUMENT, x -> x.pass(0));
        refused("-1 minutes", ARGUMENT, x -> x.pass(-1));
        refused("601 minutes", ARGUMENT, x -> x.pass(601));
        refusedByFull("1 minute", STATE, x -> x.pass(1));
        refusedByFull("600 minutes", STATE, x -> x.pass(600));
        sentence("Promise 4, setRule");
        refused("no rule", ARGUMENT, x -> x.setRule('x'));
    }

    private static void newClients() {
        sentence("Promise 5, addClient");
        refused("unit 0", ARGUMENT, x -> x.addClient(0, 'u', 'e', 1));
        refused("unit 61", ARGUMENT, x -> x.addClient(61, 'u', 'e', 1));
        refused("no mode", ARGUMENT, x -> x.addClient(1, 'x', 'e', 1));
        refused("no level", ARGUMENT, x -> x.addClient(1, 'u', 'x', 1));
        refused("rate -1", ARGUMENT, x -> x.addClient(1, 'u', 'e', -1));
        refused("rate 50001", ARGUMENT, x -> x.addClient(1, 'u', 'e', 50001));
        refusedByFull("a sixth client", STATE, x -> x.addClient(1, 'u', 'e', 1));
    }

    private static void changesOfClients() {
        for (int i = 0; i < 3; i++) {
            int client = i;
            sentence("Promise 7, setRounding");
            refused("unit 0", ARGUMENT, x -> x.setRounding(client, 0, 'd', 'c'));
            refused("unit 61", ARGUMENT, x -> x.setRounding(client, 61, 'u', 'e'));
            refused("no mode, but a unit", ARGUMENT, x -> x.setRounding(client, 11, 'x', 'd'));
            for (char mode : new char[] {'u', 'd', 'n'}) {
                refused("no level, but a unit and a mode", ARGUMENT, x -> x.setRounding(client, 11, mode, 'x'));
            }
            for (char level : new char[] {'e', 'd', 'c'}) {
                refused("no unit and no mode, but a level", ARGUMENT, x -> x.setRounding(client, 0, 'x', level));
            }
            sentence("Promise 8, setRate");
            refused("rate -1", ARGUMENT, x -> x.setRate(client, -1));
            refused("rate 50001", ARGUMENT, x -> x.setRate(client, 50001));
            sentence("Promise 9, setBudget");
            refused("budget -1", ARGUMENT, x -> x.setBudget(client, -1));
            refused("budget 10000", ARGUMENT, x -> x.setBudget(client, 10000));
        }
        for (int client : new int[] {-1, 5}) {
            sentence("Promise 7, setRounding");
            refused("no client", INDEX, x -> x.setRounding(client, 11, 'd', 'c'));
            sentence("Promise 8, setRate");
            refused("no client", INDEX, x -> x.setRate(client, 11));
            sentence("Promise 9, setBudget");
            refused("no client", INDEX, x -> x.setBudget(client, 11));
        }
    }

    private static void newEntries() {
        for (int client : new int[] {-1, 5}) {
            sentence("Promise 10, start");
            refused("no client", INDEX, x -> x.start(client));
            sentence("Promise 12, addEntry");
            refused("no client", INDEX, x -> x.addEntry(client, 0, 1));
        }
        sentence("Promise 12, addEntry");
        refused("start -1", ARGUMENT, x -> x.addEntry(0, -1, 5));
        refused("an end before the start", ARGUMENT, x -> x.addEntry(0, 5, 4));
        refused("an end behind now", ARGUMENT, x -> x.addEntry(0, 5, x.now() + 1));
    }

    private static void changesOfEntries() {
        for (int entry : new int[] {-1, 24}) {
            sentence("Promise 11, stop");
            refused("no entry", INDEX, x -> x.stop(entry));
            sentence("Promise 13, setStart");
            refused("no entry", INDEX, x -> x.setStart(entry, 0));
            sentence("Promise 14, setEnd");
            refused("no entry", INDEX, x -> x.setEnd(entry, 700));
            sentence("Promise 15, remove");
            refused("no entry", INDEX, x -> x.remove(entry));
        }
        for (int entry = 0; entry < 5; entry++) {
            changesInAState("rfxxe".charAt(entry), entry);
        }
        sentence("Promise 13, setStart");
        check.refuses("start -1", Scenes.allStates(), ARGUMENT, x -> x.setStart(4, -1));
        check.refuses("a start behind the end", Scenes.allStates(), ARGUMENT, x -> x.setStart(4, 31));
        check.refuses("a start behind now", Scenes.allStates(), ARGUMENT, x -> x.setStart(0, 101));
        sentence("Promise 14, setEnd");
        check.refuses("an end before the start", Scenes.allStates(), ARGUMENT, x -> x.setEnd(4, 19));
        check.refuses("an end behind now", Scenes.allStates(), ARGUMENT, x -> x.setEnd(4, 101));
    }

    private static void changesInAState(char state, int entry) {
        if (state != 'r') {
            sentence("Promise 11, stop");
            check.refuses("in the state " + state, Scenes.allStates(), STATE, x -> x.stop(entry));
        }
        if (state != 'e') {
            sentence("Promise 14, setEnd");
            check.refuses("in the state " + state, Scenes.allStates(), STATE, x -> x.setEnd(entry, 99));
        }
        if (state != 'e' && state != 'r') {
            sentence("Promise 13, setStart");
            check.refuses("in the state " + state, Scenes.allStates(), STATE, x -> x.setStart(entry, 3));
            sentence("Promise 15, remove");
            check.refuses("in the state " + state, Scenes.allStates(), STATE, x -> x.remove(entry));
        }
    }

    private static void limitsOfEntries() {
        sentence("Promise 10, start");
        refusedByFull("a 25th entry and a fifth running one", STATE, x -> x.start(4));
        check.refuses("a fifth running one", Scenes.busy().then(x -> x.start(1)).then(x -> x.start(2)), STATE, x -> x.start(0));
        check.refuses("a 25th entry", Scenes.full().then(x -> x.stop(20)), STATE, x -> x.start(0));
        sentence("Promise 12, addEntry");
        refusedByFull("a 25th entry", STATE, x -> x.addEntry(0, 0, 1));
    }

    private static void questionsOfEntries() {
        for (int entry : new int[] {-1, 24}) {
            sentence("Promises 17 to 21");
            refused("state of no entry", INDEX, x -> x.state(entry));
            refused("startOf no entry", INDEX, x -> x.startOf(entry));
            refused("endOf no entry", INDEX, x -> x.endOf(entry));
            refused("counted of no entry", INDEX, x -> x.counted(entry));
            refused("countedByMinutes of no entry", INDEX, x -> x.countedByMinutes(entry));
        }
    }

    private static void outputLine() {
        sentence("Promise 22, writeEntry");
        refused("no entry", INDEX, x -> x.writeEntry(24));
        refused("entry -1", INDEX, x -> x.writeEntry(-1));
        sentence("Promise 23, charAt");
        refused("index -1", INDEX, x -> x.charAt(-1));
        refused("an index behind the line", INDEX, x -> x.charAt(21));
    }

    private static void openTime() {
        sentence("Promise 24, rounded");
        refused("no entry", INDEX, x -> x.rounded(24));
        refused("a frozen one", STATE, x -> x.rounded(0));
        refusedByBusy("a removed one", STATE, x -> x.rounded(7));
        refusedByFull("a removed one", STATE, x -> x.rounded(19));
        refusedByBusy("an open one, by day", UnsupportedOperationException.class, x -> x.rounded(10));
        refusedByFull("an open one, by day", UnsupportedOperationException.class, x -> x.rounded(22));
        sentence("Promises 25 to 28");
        for (int client : new int[] {-1, 5}) {
            refused("daySeconds of no client", INDEX, x -> x.daySeconds(client, 0));
            refused("daySecondsByMinutes of no client", INDEX, x -> x.daySecondsByMinutes(client, 0));
            refused("openMinutes of no client", INDEX, x -> x.openMinutes(client));
            refused("openMinutesByLines of no client", INDEX, x -> x.openMinutesByLines(client));
        }
        for (int day : new int[] {-1, 5}) {
            refused("daySeconds of no day", ARGUMENT, x -> x.daySeconds(0, day));
            refused("daySecondsByMinutes of no day", ARGUMENT, x -> x.daySecondsByMinutes(0, day));
        }
    }

    private static void invoices() {
        sentence("Promise 29, invoice");
        refused("no client", INDEX, x -> x.invoice(5));
        refused("client -1", INDEX, x -> x.invoice(-1));
        for (int i = 0; i < 5; i++) {
            int client = i;
            refusedByFull("a ninth one, with ended entries and corrections for " + client, STATE, x -> x.invoice(client));
        }
        check.refuses("a running and a frozen entry", Scenes.busy().then(x -> x.invoice(2)), STATE, x -> x.invoice(2));
    }

    private static void linesOfInvoices() {
        sentence("Promises 31 to 38");
        for (int invoice : new int[] {-1, 8}) {
            refused("lines of no invoice", INDEX, x -> x.lines(invoice));
            refused("total of no invoice", INDEX, x -> x.total(invoice));
            refused("totalBits of no invoice", INDEX, x -> x.totalBits(invoice));
            refused("totalCents of no invoice", INDEX, x -> x.totalCents(invoice));
            noLine(invoice, 0);
        }
        noLine(0, -1);
        noLine(0, 1);
    }

    private static void noLine(int invoice, int line) {
        refused("no line: lineKind", INDEX, x -> x.lineKind(invoice, line));
        refused("no line: lineMinutes", INDEX, x -> x.lineMinutes(invoice, line));
        refused("no line: lineSubject", INDEX, x -> x.lineSubject(invoice, line));
        refused("no line: lineAmount", INDEX, x -> x.lineAmount(invoice, line));
    }

    private static void corrections() {
        sentence("Promise 39, correct");
        refused("no entry", INDEX, x -> x.correct(24, 1));
        refused("entry -1", INDEX, x -> x.correct(-1, 1));
        for (int minutes : new int[] {-601, 0, 601}) {
            refused("by " + minutes, ARGUMENT, x -> x.correct(0, minutes));
        }
        refusedByBusy("a removed one", STATE, x -> x.correct(7, 1));
        refusedByBusy("an ended one", STATE, x -> x.correct(4, 1));
        refusedByBusy("a running one", STATE, x -> x.correct(8, 1));
        refusedByFull("a 17th correction", STATE, x -> x.correct(0, 1));
    }

    private static void budgetsAndMeans() {
        sentence("Promises 40 to 42");
        for (int client : new int[] {-1, 5}) {
            refused("usedMinutes of no client", INDEX, x -> x.usedMinutes(client));
            refused("budgetShare of no client", INDEX, x -> x.budgetShare(client));
            refused("warning of no client", INDEX, x -> x.warning(client));
        }
        refused("budgetShare without a budget", ArithmeticException.class, x -> x.budgetShare(0));
        sentence("Promises 43 and 44");
        Scene none = Scenes.client(100).then(x -> x.start(0)).then(x -> x.remove(0));
        check.refuses("meanMinutes of nothing", none, ArithmeticException.class, x -> x.meanMinutes());
        check.refuses("meanBits of nothing", none, ArithmeticException.class, x -> x.meanBits());
    }

    /** What is asked behind a refused call must be such that it tells a change: each allowed call shows in some part of it. */
    private static void allowedCallsChangeSomething() {
        check.sentence("Terms: A method that throws an exception changes nothing");
        changes("pass", x -> x.pass(1));
        changes("setRule", x -> x.setRule('f'));
        changes("addClient", x -> x.addClient(1, 'u', 'e', 1));
        for (int i = 0; i < 3; i++) {
            int client = i;
            changes("setRounding: unit", x -> x.setRounding(client, 11, "udn".charAt(client), "ecd".charAt(client)));
            changes("setRounding: mode", x -> x.setRounding(client, 7 + 13 * client, "duu".charAt(client), "ecd".charAt(client)));
            changes("setRounding: level", x -> x.setRounding(client, 7 + 13 * client, "udn".charAt(client), "cde".charAt(client)));
            changes("setRate", x -> x.setRate(client, 11));
            changes("setBudget", x -> x.setBudget(client, 11));
            changes("start", x -> x.start(client));
            changes("addEntry", x -> x.addEntry(client, 5, 5));
        }
        changes("stop", x -> x.stop(8));
        changes("setStart", x -> x.setStart(6, 16));
        changes("setEnd", x -> x.setEnd(6, 47));
        changes("remove", x -> x.remove(6));
        changes("writeEntry", x -> x.writeEntry(0));
        changes("invoice", x -> x.invoice(0));
        changes("correct", x -> x.correct(0, 1));
    }

    private static void changes(String what, Scene.Call call) {
        boolean told = false;
        for (Snapshot.Part part : Snapshot.PARTS) {
            told = told || !part.of(Scenes.busy().make()).equals(part.of(Scenes.busy().then(call).make()));
        }
        check.same(what + " is told", told, true);
    }
}
