/** The boundaries that the promises 1 to 9 name: a new object, time, the rule and the clients. */
public final class BoundariesOfClientsTest {
    private static final Check check = new Check();

    public static void main(String[] args) {
        promise1NewObject();
        promise2Now();
        promise3Minutes();
        promise3OutOfRange();
        promise3LastMinute();
        promise4Rule();
        promise4NoSuchRule();
        promise5Unit();
        promise5Mode();
        promise5Level();
        promise5Rate();
        promise5OutOfRange();
        promise5FiveClients();
        promise6Clients();
        promise7Unit();
        promise7ModeAndLevel();
        promise7NoSuchClient();
        promise7OutOfRange();
        promise8Rate();
        promise8NoSuchClient();
        promise8OutOfRange();
        promise9Budget();
        promise9NoSuchClient();
        promise9OutOfRange();
        check.end();
    }

    private static void promise1NewObject() {
        check.sentence("Promise 1, a new object: Creates a time tracker without clients and entries, at minute 0");
        Scene none = TimerLedger::new;
        check.answers("now", none, x -> x.now(), 0);
        check.answers("clients", none, x -> x.clients(), 0);
        check.answers("entries", none, x -> x.entries(), 0);
        check.answers("invoices", none, x -> x.invoices(), 0);
        check.answers("output line", none, x -> Snapshot.outputOf(x), "");
        check.answers("isConsistent", none, x -> x.isConsistent(), true);
        check.refusesIndex("a client", none, x -> x.openMinutes(0));
        check.refusesIndex("an entry", none, x -> x.state(0));
        check.refusesIndex("an invoice", none, x -> x.lines(0));
        check.refuses("a mean", none, ArithmeticException.class, x -> x.meanMinutes());
        check.answers("beside a full object: now", Scenes.full(), x -> new TimerLedger().now(), 0);
        check.answers("beside a full object: clients", Scenes.full(), x -> new TimerLedger().clients(), 0);
        check.answers("beside a full object: entries", Scenes.full(), x -> new TimerLedger().entries(), 0);
        check.answers("a full object", Scenes.full(), x -> x.clients(), 5);
    }

    private static void promise2Now() {
        check.sentence("Promise 2, now: Returns the present minute");
        for (int minute : new int[] {0, 1, 2998, 2999}) {
            check.answers("at minute " + minute, Scenes.minute(minute), x -> x.now(), minute);
        }
    }

    private static void promise3Minutes() {
        check.sentence("Promise 3, pass: `minutes`: the number of minutes, 1 to 600");
        check.range("pass", TimerLedger::new, 1, 600, (x, minutes) -> x.pass(minutes), minutes -> minutes);
        check.answers("1 to the last minute", Scenes.minute(2998), x -> x.pass(1), 2999);
        check.answers("600 to the last minute", Scenes.minute(2399), x -> x.pass(600), 2999);
    }

    private static void promise3OutOfRange() {
        check.sentence("Promise 3, pass: Throws IllegalArgumentException if the number is out of range");
        check.refusesArgument("0", Scenes.minute(600), x -> x.pass(0));
        check.answers("1", Scenes.minute(600), x -> x.pass(1), 601);
        check.answers("600", Scenes.minute(600), x -> x.pass(600), 1200);
        check.refusesArgument("601", Scenes.minute(600), x -> x.pass(601));
        check.refusesArgument("-600, back to the first minute", Scenes.minute(600), x -> x.pass(-600));
        check.refusesArgument("the greatest int", Scenes.minute(600), x -> x.pass(Integer.MAX_VALUE));
    }

    private static void promise3LastMinute() {
        check.sentence("Promise 3, pass: Throws IllegalStateException if the present minute would be greater than 2999");
        for (int minutes : new int[] {1, 2, 599, 600}) {
            check.answers(minutes + " to 2999", Scenes.minute(2999 - minutes), x -> x.pass(minutes), 2999);
            check.refusesState(minutes + " to 3000", Scenes.minute(3000 - minutes), x -> x.pass(minutes));
        }
        check.refusesState("600 from 2999", Scenes.minute(2999), x -> x.pass(600));
    }

    private static void promise4Rule() {
        check.sentence("Promise 4, setRule: `rule`: the new rule, 'f', 'l' or 's'");
        check.letters("setRule", TimerLedger::new, "fls", (x, rule) -> x.setRule((char) rule), rule -> 'f');
        for (char rule : new char[] {'f', 'l', 's'}) {
            check.answers("the previous rule", Scenes.minute(0).then(x -> x.setRule(rule)), x -> x.setRule('l'), rule);
        }
    }

    private static void promise4NoSuchRule() {
        check.sentence("Promise 4, setRule: Throws IllegalArgumentException if there is no such rule");
        Scene shared = Scenes.clients(2).then(x -> x.setRule('s'));
        for (char none : new char[] {'e', 'g', 'k', 'm', 'r', 't', 'F', 'L', 'S', 0, 'f' + 256, Character.MAX_VALUE}) {
            check.refusesArgument("rule number " + (int) none, shared, x -> x.setRule(none));
        }
        for (char rule : new char[] {'f', 'l', 's'}) {
            check.answers("rule " + rule, shared, x -> x.setRule(rule), 's');
        }
    }

    private static void promise5Unit() {
        check.sentence("Promise 5, addClient: `unit`: the unit of the rounding, 1 to 60");
        check.range("unit", Scenes.clients(2), 1, 60, (x, unit) -> x.addClient(unit, 'u', 'e', 0), unit -> 2);
        check.answers("a minute by the unit 1", Scenes.client(1, 'u', 'e', 0, 100).then(x -> x.addEntry(0, 0, 1)), x -> x.openMinutes(0), 1);
        check.answers("a minute by the unit 60", Scenes.client(60, 'u', 'e', 0, 100).then(x -> x.addEntry(0, 0, 1)), x -> x.openMinutes(0), 60);
    }

    private static void promise5Mode() {
        check.sentence("Promise 5, addClient: `mode`: the mode of the rounding, 'u', 'd' or 'n'");
        check.letters("mode", Scenes.clients(2), "udn", (x, mode) -> x.addClient(1, (char) mode, 'e', 0), mode -> 2);
    }

    private static void promise5Level() {
        check.sentence("Promise 5, addClient: `level`: the level of the rounding, 'e', 'd' or 'c'");
        check.letters("level", Scenes.clients(2), "edc", (x, level) -> x.addClient(1, 'u', (char) level, 0), level -> 2);
    }

    private static void promise5Rate() {
        check.sentence("Promise 5, addClient: `rate`: the rate in cents for an hour, 0 to 50000");
        check.range("rate", Scenes.clients(2), 0, 50000, (x, rate) -> x.addClient(1, 'u', 'e', rate), rate -> 2);
        for (int rate : new int[] {0, 50000}) {
            Scene scene = Scenes.client(1, 'u', 'e', rate, 100).then(x -> x.addEntry(0, 0, 60)).then(x -> x.invoice(0));
            check.answers("an hour at the rate " + rate, scene, x -> x.totalCents(0), rate);
        }
    }

    private static void promise5OutOfRange() {
        check.sentence("Promise 5, addClient: Throws IllegalArgumentException if a number is out of range, or there is no such mode or level");
        for (int clients : new int[] {0, 4}) {
            Scene scene = Scenes.clients(clients);
            check.refusesArgument("unit 0", scene, x -> x.addClient(0, 'u', 'e', 0));
            check.refusesArgument("unit 61", scene, x -> x.addClient(61, 'u', 'e', 0));
            check.refusesArgument("mode c", scene, x -> x.addClient(1, 'c', 'e', 0));
            check.refusesArgument("level n", scene, x -> x.addClient(1, 'u', 'n', 0));
            check.refusesArgument("rate -1", scene, x -> x.addClient(1, 'u', 'e', -1));
            check.refusesArgument("rate 50001", scene, x -> x.addClient(1, 'u', 'e', 50001));
            check.answers("the greatest of all", scene, x -> x.addClient(60, 'n', 'd', 50000), clients);
            check.answers("the least of all", scene, x -> x.addClient(1, 'd', 'c', 0), clients);
        }
    }

    private static void promise5FiveClients() {
        check.sentence("Promise 5, addClient: Throws IllegalStateException if there are 5 clients");
        check.answers("behind 4", Scenes.clients(4), x -> x.addClient(1, 'u', 'e', 0), 4);
        check.refusesState("behind 5", Scenes.clients(5), x -> x.addClient(1, 'u', 'e', 0));
    }

    private static void promise6Clients() {
        check.sentence("Promise 6, clients: Returns the number of clients");
        for (int clients : new int[] {0, 1, 4, 5}) {
            check.answers("of " + clients, Scenes.clients(clients), x -> x.clients(), clients);
        }
        check.refusesState("a sixth one does not count", Scenes.clients(5), x -> x.addClient(1, 'u', 'e', 0));
    }

    private static void promise7Unit() {
        check.sentence("Promise 7, setRounding: `unit`: the new unit, 1 to 60");
        check.range("unit", Scenes.clients(5), 1, 60, (x, unit) -> x.setRounding(4, unit, 'u', 'e'), unit -> 5);
        for (int unit : new int[] {1, 60}) {
            Scene scene = Scenes.clients(1).then(x -> x.setRounding(0, unit, 'u', 'e'));
            check.answers("5 minutes by the unit " + unit, scene, x -> x.openMinutes(0), unit == 1 ? 5 : 60);
            check.answers("the unit before", scene, x -> x.setRounding(0, 7, 'u', 'e'), unit);
        }
    }

    private static void promise7ModeAndLevel() {
        check.sentence("Promise 7, setRounding: `mode`: the new mode, 'u', 'd' or 'n'; `level`: the new level, 'e', 'd' or 'c'");
        check.letters("mode", Scenes.clients(2), "udn", (x, mode) -> x.setRounding(1, 1, (char) mode, 'e'), mode -> 2);
        check.letters("level", Scenes.clients(2), "edc", (x, level) -> x.setRounding(1, 1, 'u', (char) level), level -> 2);
    }

    private static void promise7NoSuchClient() {
        check.sentence("Promise 7, setRounding: Throws IndexOutOfBoundsException if there is no such client");
        check.numbers("client", Scenes::clients, 5, (x, client) -> x.setRounding(client, 60, 'd', 'c'), client -> client + 1);
    }

    private static void promise7OutOfRange() {
        check.sentence("Promise 7, setRounding: Throws IllegalArgumentException if the unit is out of range, or there is no such mode or level");
        Scene scene = Scenes.clients(3);
        check.refusesArgument("unit 0", scene, x -> x.setRounding(2, 0, 'd', 'c'));
        check.refusesArgument("unit 61", scene, x -> x.setRounding(2, 61, 'd', 'c'));
        check.refusesArgument("mode e", scene, x -> x.setRounding(2, 60, 'e', 'c'));
        check.refusesArgument("level u", scene, x -> x.setRounding(2, 60, 'd', 'u'));
        check.answers("the greatest unit", scene, x -> x.setRounding(2, 60, 'd', 'c'), 3);
        check.answers("the least unit", scene, x -> x.setRounding(2, 1, 'n', 'd'), 3);
    }

    private static void promise8Rate() {
        check.sentence("Promise 8, setRate: `rate`: the new rate in cents for an hour, 0 to 50000");
        check.range("rate", Scenes.clients(5), 0, 50000, (x, rate) -> x.setRate(4, rate), rate -> 500);
        for (int rate : new int[] {0, 50000}) {
            Scene scene = Scenes.clients(1).then(x -> x.setRate(0, rate));
            check.answers("the rate before", scene, x -> x.setRate(0, 7), rate);
            check.answers("5 minutes at the rate " + rate, scene, x -> x.lineAmount(x.invoice(0), 0), 5f * (float) rate / 60.0f);
        }
    }

    private static void promise8NoSuchClient() {
        check.sentence("Promise 8, setRate: Throws IndexOutOfBoundsException if there is no such client");
        check.numbers("client", Scenes::clients, 5, (x, client) -> x.setRate(client, 7), client -> 100 * (client + 1));
    }

    private static void promise8OutOfRange() {
        check.sentence("Promise 8, setRate: Throws IllegalArgumentException if the rate is out of range");
        check.refusesArgument("-1", Scenes.clients(1), x -> x.setRate(0, -1));
        check.answers("0", Scenes.clients(1), x -> x.setRate(0, 0), 100);
        check.answers("50000", Scenes.clients(1), x -> x.setRate(0, 50000), 100);
        check.refusesArgument("50001", Scenes.clients(1), x -> x.setRate(0, 50001));
    }

    private static void promise9Budget() {
        check.sentence("Promise 9, setBudget: `minutes`: the new budget, 0 to 9999");
        check.range("budget", Scenes.clients(5), 0, 9999, (x, budget) -> x.setBudget(4, budget), budget -> 14);
        check.answers("the greatest budget", Scenes.clients(1).then(x -> x.setBudget(0, 9999)), x -> x.budgetShare(0), 5f / 9999f);
        check.answers("the least budget", Scenes.clients(1).then(x -> x.setBudget(0, 0)), x -> x.budgetShare(0), ArithmeticException.class);
    }

    private static void promise9NoSuchClient() {
        check.sentence("Promise 9, setBudget: Throws IndexOutOfBoundsException if there is no such client");
        check.numbers("client", Scenes::clients, 5, (x, client) -> x.setBudget(client, 7), client -> 10 + client);
    }

    private static void promise9OutOfRange() {
        check.sentence("Promise 9, setBudget: Throws IllegalArgumentException if the budget is out of range");
        check.refusesArgument("-1", Scenes.clients(1), x -> x.setBudget(0, -1));
        check.answers("0", Scenes.clients(1), x -> x.setBudget(0, 0), 10);
        check.answers("9999", Scenes.clients(1), x -> x.setBudget(0, 9999), 10);
        check.refusesArgument("10000", Scenes.clients(1), x -> x.setBudget(0, 10000));
    }
}
