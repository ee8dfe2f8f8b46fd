/** The boundaries that the promises 39 to 45 name: corrections, budgets, the mean and the invariants. */
public final class BoundariesOfCorrectionsTest {
    private static final Check check = new Check();

    public static void main(String[] args) {
        promise39Minutes();
        promise39NoSuchEntry();
        promise39OutOfRange();
        promise39NotFrozen();
        promise39MostCorrections();
        promise39Sum();
        promise40NoSuchClient();
        promise41Share();
        promise41NoSuchClient();
        promise41NoBudget();
        promise42NoBudget();
        promise42Share();
        promise42MoreThanTheBudget();
        promise42NoSuchClient();
        promise43Mean();
        promise43NoEntries();
        promise44Bits();
        promise44NoEntries();
        promise45Invariants();
        check.end();
    }

    // ---- corrections

    private static void promise39Minutes() {
        check.sentence("Promise 39, correct: `minutes`: the number of minutes, -600 to 600, but not 0");
        check.range("minutes", Scenes.corrections(0), -600, 600, (x, minutes) -> x.correct(0, minutes), minutes -> minutes);
        for (int minutes : new int[] {-599, -1, 1, 599}) {
            check.answers("minutes " + minutes, Scenes.corrections(0), x -> x.correct(0, minutes), minutes);
        }
        check.refusesArgument("minutes 0", Scenes.corrections(0), x -> x.correct(0, 0));
    }

    private static void promise39NoSuchEntry() {
        check.sentence("Promise 39, correct: Throws IndexOutOfBoundsException if there is no such entry");
        check.numbers("entry", Scenes::frozenEntries, 24, BoundariesOfCorrectionsTest::correctedEntry, entry -> entry);
    }

    private static Object correctedEntry(TimerLedger ledger, int entry) {
        ledger.correct(entry, 9);
        return ledger.lineSubject(ledger.invoice(0), 0);
    }

    private static void promise39OutOfRange() {
        check.sentence("Promise 39, correct: Throws IllegalArgumentException if the number is out of range");
        check.refusesArgument("-601", Scenes.corrections(3), x -> x.correct(0, -601));
        check.answers("-600", Scenes.corrections(3), x -> x.correct(0, -600), 3 - 600);
        check.answers("-1", Scenes.corrections(3), x -> x.correct(0, -1), 3 - 1);
        check.refusesArgument("0", Scenes.corrections(3), x -> x.correct(0, 0));
        check.answers("1", Scenes.corrections(3), x -> x.correct(0, 1), 3 + 1);
        check.answers("600", Scenes.corrections(3), x -> x.correct(0, 600), 3 + 600);
        check.refusesArgument("601", Scenes.corrections(3), x -> x.correct(0, 601));
    }

    private static void promise39NotFrozen() {
        check.sentence("Promise 39, correct: Throws IllegalStateException if the entry is not frozen");
        check.refusesState("running", Scenes.allStates(), x -> x.correct(0, 1));
        check.answers("frozen", Scenes.allStates(), x -> x.correct(1, 1), 1);
        check.refusesState("removed", Scenes.allStates(), x -> x.correct(2, 1));
        check.refusesState("removed while it ran", Scenes.allStates(), x -> x.correct(3, 1));
        check.refusesState("ended", Scenes.allStates(), x -> x.correct(4, 1));
        check.answers("no longer ended", Scenes.allStates().then(x -> x.invoice(0)), x -> x.correct(4, 1), 1);
    }

    private static void promise39MostCorrections() {
        check.sentence("Promise 39, correct: Throws IllegalStateException if .. there are 16 corrections");
        check.answers("behind 15", Scenes.corrections(15), x -> x.correct(0, 1), 16);
        check.refusesState("behind 16", Scenes.corrections(16), x -> x.correct(0, 1));
        check.answers("behind 15 in an invoice", Scenes.corrections(15).then(x -> x.invoice(0)), x -> x.correct(0, 1), 1);
        check.refusesState("behind 16 in an invoice", Scenes.corrections(16).then(x -> x.invoice(0)), x -> x.correct(0, 1));
    }

    private static void promise39Sum() {
        check.sentence("Promise 39, correct: Returns the sum of the minutes of all corrections of its client that were not in an invoice yet");
        Scene two = Scenes.clients(2).then(x -> x.invoice(0)).then(x -> x.invoice(1)).then(x -> x.correct(0, 7)).then(x -> x.correct(1, 90));
        check.answers("behind one of its own and another client's", two, x -> x.correct(0, 5), 12);
        check.answers("behind one that was in an invoice", two.then(x -> x.invoice(0)), x -> x.correct(0, 5), 5);
        check.answers("nothing in all", two, x -> x.correct(0, -7), 0);
        check.answers("the least sum", Scenes.corrections(0).thenTimes(15, (x, time) -> x.correct(0, -600)), x -> x.correct(0, -600), -9600);
        check.answers("the greatest sum", Scenes.corrections(0).thenTimes(15, (x, time) -> x.correct(0, 600)), x -> x.correct(0, 600), 9600);
    }

    // ---- budgets

    private static void promise40NoSuchClient() {
        check.sentence("Promise 40, usedMinutes: Throws IndexOutOfBoundsException if there is no such client");
        check.numbers("client", Scenes::clients, 5, (x, client) -> x.usedMinutes(client), client -> 5 * (client + 1));
    }

    /** With so many used minutes of a budget: of open entries, or, if they are less than none, of a correction. */
    private static Scene used(int minutes, int budget) {
        Scene none = Scenes.entry(0, 0).then(x -> x.setBudget(0, budget));
        if (minutes < 0) {
            return none.then(x -> x.invoice(0)).then(x -> x.correct(0, minutes)).then(x -> x.invoice(0));
        }
        return none.thenTimes(minutes / 2999, (x, entry) -> x.addEntry(0, 0, 2999)).then(x -> x.setEnd(0, minutes % 2999));
    }

    private static void promise41Share() {
        check.sentence("Promise 41, budgetShare: the used minutes divided by the budget, both converted to float");
        int[][] rows = {{0, 1}, {1, 1}, {2, 1}, {1, 3}, {2, 3}, {9998, 9999}, {9999, 9999}, {10000, 9999}, {1, 9999}, {-1, 1}, {-600, 7}, {68977, 1}};
        for (int[] row : rows) {
            check.answers(row[0] + " of " + row[1], used(row[0], row[1]), x -> x.budgetShare(0), (float) row[0] / (float) row[1]);
        }
    }

    private static void promise41NoSuchClient() {
        check.sentence("Promise 41, budgetShare: Throws IndexOutOfBoundsException if there is no such client");
        check.numbers("client", Scenes::clients, 5, (x, client) -> x.budgetShare(client), client -> 5.0f * (client + 1) / (10 + client));
    }

    private static void promise41NoBudget() {
        check.sentence("Promise 41, budgetShare: Throws ArithmeticException if the budget is 0");
        check.refuses("a budget of 0 at first", Scenes.client(100), ArithmeticException.class, x -> x.budgetShare(0));
        check.refuses("a budget of 0 again", used(5, 1).then(x -> x.setBudget(0, 0)), ArithmeticException.class, x -> x.budgetShare(0));
        check.answers("a budget of 1", used(5, 1), x -> x.budgetShare(0), 5.0f);
    }

    private static void warns(int used, int budget, char due) {
        check.answers(used + " of " + budget, used(used, budget), x -> x.warning(0), due);
    }

    private static void promise42NoBudget() {
        check.sentence("Promise 42, warning: Returns 'n' if the budget is 0");
        warns(0, 0, 'n');
        warns(1, 0, 'n');
        warns(2999, 0, 'n');
        warns(1, 1, 'w');
        warns(2, 1, 'o');
    }

    private static void promise42Share() {
        check.sentence("Promise 42, warning: Returns 'n' if .. the share is less than 0.8f");
        warns(-1, 1, 'n');
        warns(0, 1, 'n');
        for (int fifth : new int[] {1, 3, 20, 599, 1999}) {
            warns(4 * fifth - 1, 5 * fifth, 'n');
            warns(4 * fifth, 5 * fifth, 'w');
            warns(4 * fifth + 1, 5 * fifth, 'w');
        }
        warns(7999, 9999, 'n');
        warns(8000, 9999, 'w');
    }

    private static void promise42MoreThanTheBudget() {
        check.sentence("Promise 42, warning: 'o' if the used minutes are greater than the budget, 'w' otherwise");
        for (int budget : new int[] {1, 2, 100, 2999, 9999}) {
            warns(budget, budget, 'w');
            warns(budget + 1, budget, 'o');
        }
        warns(99, 100, 'w');
        warns(9998, 9999, 'w');
    }

    private static void promise42NoSuchClient() {
        check.sentence("Promise 42, warning: Throws IndexOutOfBoundsException if there is no such client");
        // 5 of 10, 10 of 11, 15 of 12 and so on.
        check.numbers("client", Scenes::clients, 5, (x, client) -> x.warning(client), client -> client == 0 ? 'n' : 'o');
        check.answers("the second client", Scenes.clients(2), x -> x.warning(1), 'w');
    }

    // ---- the mean

    private static Scene fullDays(int entries) {
        return Scenes.client(2999).thenTimes(entries, (x, entry) -> x.addEntry(0, 0, 2999));
    }

    private static void means(String what, Scene scene, int seconds, int entries) {
        check.answers(what + ": meanMinutes", scene, x -> x.meanMinutes(), (double) seconds / 60.0 / (double) entries);
    }

    private static void promise43Mean() {
        check.sentence("Promise 43, meanMinutes: the sum of their counted seconds, converted to double, divided by 60.0, and then by their number, converted to double");
        means("an empty entry", Scenes.entry(0, 0), 0, 1);
        means("one entry", fullDays(1), 2999 * 60, 1);
        means("24 entries", fullDays(24), 24 * 2999 * 60, 24);
        means("2 of 24 that are not removed", Scenes.entries(24).thenTimes(22, (x, entry) -> x.remove(entry)), 60 * (23 + 24), 2);
        means("all states", Scenes.allStates(), 1800, 3);
        means("shared by seven", Scenes.inOneMinute(7, 's'), 60, 7);
        means("23 entries and one of a minute", Scenes.client(100).thenTimes(23, (x, entry) -> x.addEntry(0, 0, 0)).then(x -> x.addEntry(0, 0, 1)), 60, 24);
    }

    private static void promise43NoEntries() {
        check.sentence("Promise 43, meanMinutes: Throws ArithmeticException if there are no such entries");
        check.refuses("a new object", TimerLedger::new, ArithmeticException.class, x -> x.meanMinutes());
        check.refuses("a client alone", Scenes.client(100), ArithmeticException.class, x -> x.meanMinutes());
        check.refuses("a removed entry alone", Scenes.entries(1).then(x -> x.remove(0)), ArithmeticException.class, x -> x.meanMinutes());
        check.refuses("24 removed ones", Scenes.entries(24).thenTimes(24, (x, entry) -> x.remove(entry)), ArithmeticException.class, x -> x.meanMinutes());
        check.answers("one of 24", Scenes.entries(24).thenTimes(23, (x, entry) -> x.remove(entry)), x -> x.meanMinutes(), 24.0);
        check.answers("an entry that just started", Scenes.running(1), x -> x.meanMinutes(), 0.0);
    }

    private static void bits(String what, Scene scene, double due) {
        check.answers(what + ": meanBits", scene, x -> x.meanBits(), Double.doubleToLongBits(due));
    }

    private static void promise44Bits() {
        check.sentence("Promise 44, meanBits: Returns the bits of the same mean, as by Double.doubleToLongBits");
        bits("an empty entry", Scenes.entry(0, 0), 0.0);
        for (int minutes : new int[] {1, 2, 3, 4, 1023, 1024, 1025, 2047, 2048, 2999}) {
            bits(minutes + " minutes", Scenes.entry(0, minutes), (double) minutes);
            for (int more : new int[] {1, 2, 23}) {
                bits(minutes + " minutes of " + (more + 1), Scenes.entry(0, minutes).thenTimes(more, (x, entry) -> x.addEntry(0, 0, 0)), minutes * 60.0 / 60.0 / (more + 1));
            }
        }
        bits("24 entries", fullDays(24), 2999.0);
    }

    private static void promise44NoEntries() {
        check.sentence("Promise 44, meanBits: Throws ArithmeticException if there are no such entries");
        check.refuses("a new object", TimerLedger::new, ArithmeticException.class, x -> x.meanBits());
        check.refuses("a removed entry alone", Scenes.entries(1).then(x -> x.remove(0)), ArithmeticException.class, x -> x.meanBits());
        check.answers("one of two", Scenes.entries(2).then(x -> x.remove(0)), x -> x.meanBits(), Double.doubleToLongBits(2.0));
        check.answers("an entry that just started", Scenes.running(1), x -> x.meanBits(), 0L);
    }

    private static void promise45Invariants() {
        check.sentence("Promise 45, isConsistent: Returns true if the invariants hold");
        check.answers("a new object", TimerLedger::new, x -> x.isConsistent(), true);
        check.answers("5 clients", Scenes.clients(5), x -> x.isConsistent(), true);
        check.answers("24 entries", Scenes.entries(24), x -> x.isConsistent(), true);
        check.answers("24 frozen entries", Scenes.frozenEntries(24), x -> x.isConsistent(), true);
        check.answers("4 running entries", Scenes.running(4), x -> x.isConsistent(), true);
        check.answers("8 invoices", Scenes.invoices(8), x -> x.isConsistent(), true);
        check.answers("16 corrections", Scenes.corrections(16), x -> x.isConsistent(), true);
        check.answers("all states", Scenes.allStates(), x -> x.isConsistent(), true);
        for (char rule : new char[] {'f', 'l', 's'}) {
            check.answers("a busy object by " + rule, Scenes.busy().then(x -> x.setRule(rule)), x -> x.isConsistent(), true);
            check.answers("a full object by " + rule, Scenes.full().then(x -> x.setRule(rule)), x -> x.isConsistent(), true);
        }
    }
}
