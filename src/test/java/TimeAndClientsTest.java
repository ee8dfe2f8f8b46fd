/** Promises 1 to 9: a new object, time, the rule and the clients. */
public final class TimeAndClientsTest {
    private static final Check check = new Check();

    public static void main(String[] args) {
        newObject();
        passing();
        rules();
        addingClients();
        roundings();
        levelsOfRoundings();
        rates();
        budgets();
        check.end();
    }

    private static void newObject() {
        TimerLedger ledger = new TimerLedger();
        check.same("new: now", ledger.now(), 0);
        check.same("new: clients", ledger.clients(), 0);
        check.same("new: entries", ledger.entries(), 0);
        check.same("new: invoices", ledger.invoices(), 0);
        check.same("new: isConsistent", ledger.isConsistent(), true);
        check.same("new: output line", Snapshot.outputOf(ledger), "");
        check.same("new: first rule", ledger.setRule('f'), 'f');
        TimerLedger other = new TimerLedger();
        other.addClient(1, 'u', 'e', 1);
        other.pass(5);
        check.same("objects are apart: now", ledger.now(), 0);
        check.same("objects are apart: clients", ledger.clients(), 0);
    }

    private static void passing() {
        TimerLedger ledger = new TimerLedger();
        check.same("pass 1", ledger.pass(1), 1);
        check.same("pass 600", ledger.pass(600), 601);
        check.same("now after both", ledger.now(), 601);
        check.same("now asked again", ledger.now(), 601);
        for (int i = 0; i < 3; i++) {
            ledger.pass(600);
        }
        check.same("pass to the last minute", ledger.pass(598), 2999);
        check.same("now at the last minute", ledger.now(), 2999);
    }

    private static void rules() {
        TimerLedger ledger = new TimerLedger();
        check.same("rule l", ledger.setRule('l'), 'f');
        check.same("rule s", ledger.setRule('s'), 'l');
        check.same("rule f", ledger.setRule('f'), 's');
        check.same("rule f again", ledger.setRule('f'), 'f');
    }

    private static void addingClients() {
        TimerLedger ledger = new TimerLedger();
        check.same("client 0", ledger.addClient(1, 'u', 'e', 0), 0);
        check.same("client 1", ledger.addClient(60, 'd', 'd', 50000), 1);
        check.same("client 2", ledger.addClient(15, 'n', 'c', 7500), 2);
        check.same("clients", ledger.clients(), 3);
        check.same("the rate given", ledger.setRate(1, 1), 50000);
        check.same("the unit given", ledger.setRounding(2, 1, 'u', 'e'), 15);
        check.same("the budget at first", ledger.setBudget(0, 1), 0);
    }

    private static void roundings() {
        TimerLedger ledger = new TimerLedger();
        ledger.addClient(15, 'u', 'e', 0);
        ledger.pass(61);
        ledger.addEntry(0, 0, 61);
        check.same("up to 15", ledger.openMinutes(0), 75);
        check.same("new rounding", ledger.setRounding(0, 60, 'd', 'c'), 15);
        check.same("down to 60", ledger.openMinutes(0), 60);
        check.same("new rounding", ledger.setRounding(0, 2, 'n', 'd'), 60);
        check.same("nearest to 2, in the middle", ledger.openMinutes(0), 62);
        check.same("new rounding", ledger.setRounding(0, 1, 'u', 'e'), 2);
    }

    private static void levelsOfRoundings() {
        TimerLedger ledger = new TimerLedger();
        ledger.addClient(10, 'u', 'e', 0);
        for (int i = 0; i < 2; i++) {
            ledger.pass(600);
        }
        ledger.addEntry(0, 0, 1);
        ledger.addEntry(0, 1, 2);
        ledger.addEntry(0, 601, 602);
        check.same("by entry", ledger.openMinutes(0), 30);
        ledger.setRounding(0, 10, 'u', 'd');
        check.same("by day", ledger.openMinutes(0), 20);
        ledger.setRounding(0, 10, 'u', 'c');
        check.same("carried", ledger.openMinutes(0), 10);
        ledger.setRounding(0, 10, 'u', 'e');
        check.same("by entry again", ledger.openMinutes(0), 30);
    }

    private static void rates() {
        TimerLedger ledger = new TimerLedger();
        ledger.addClient(15, 'u', 'e', 7);
        check.same("rate 50000", ledger.setRate(0, 50000), 7);
        check.same("rate 0", ledger.setRate(0, 0), 50000);
    }

    private static void budgets() {
        TimerLedger ledger = new TimerLedger();
        ledger.addClient(15, 'u', 'e', 7);
        check.same("budget 9999", ledger.setBudget(0, 9999), 0);
        check.same("budget 0", ledger.setBudget(0, 0), 9999);
    }
}
