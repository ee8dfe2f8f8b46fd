/** Promises 39 to 45: corrections, budgets, the mean and the invariants. */
public final class CorrectionsAndBudgetsTest {
    private static final Check check = new Check();

    public static void main(String[] args) {
        correcting();
        usedMinutes();
        shares();
        warnings();
        warningAtTheShare();
        means();
        consistency();
        check.end();
    }

    private static TimerLedger withClient(int unit, char mode, char level, int minutes) {
        TimerLedger ledger = new TimerLedger();
        ledger.addClient(unit, mode, level, 6000);
        for (int left = minutes; left > 0; left -= 600) {
            ledger.pass(Math.min(left, 600));
        }
        return ledger;
    }

    private static void correcting() {
        TimerLedger ledger = withClient(15, 'u', 'e', 100);
        ledger.addClient(15, 'u', 'e', 6000);
        ledger.addEntry(0, 0, 5);
        ledger.addEntry(1, 0, 5);
        ledger.addEntry(0, 0, 5);
        ledger.invoice(0);
        ledger.invoice(1);
        check.same("600", ledger.correct(0, 600), 600);
        check.same("-600 of the same", ledger.correct(0, -600), 0);
        check.same("-1 of another entry", ledger.correct(2, -1), -1);
        check.same("of another client", ledger.correct(1, 9), 9);
        check.same("1", ledger.correct(2, 3), 2);
        ledger.invoice(0);
        check.same("only those that wait", ledger.correct(0, 4), 4);
        check.same("the other client's wait", ledger.correct(1, 1), 10);
        check.same("counted stays", ledger.counted(0), 300);
        check.same("state stays", ledger.state(0), 'f');
    }

    private static void usedMinutes() {
        TimerLedger ledger = withClient(15, 'u', 'e', 100);
        ledger.addClient(1, 'u', 'e', 6000);
        check.same("nothing used", ledger.usedMinutes(0), 0);
        ledger.addEntry(0, 0, 16);
        ledger.addEntry(1, 0, 16);
        check.same("open", ledger.usedMinutes(0), 30);
        ledger.invoice(0);
        check.same("invoiced", ledger.usedMinutes(0), 30);
        ledger.start(0);
        ledger.pass(1);
        check.same("invoiced and running", ledger.usedMinutes(0), 45);
        ledger.correct(0, -100);
        check.same("a waiting correction does not count", ledger.usedMinutes(0), 45);
        ledger.invoice(0);
        check.same("an invoiced correction counts", ledger.usedMinutes(0), -55);
        ledger.setRounding(0, 60, 'u', 'd');
        check.same("lines stay, open time is rounded anew", ledger.usedMinutes(0), 30 - 100 + 60);
        check.same("another client", ledger.usedMinutes(1), 16);
    }

    private static void shares() {
        TimerLedger ledger = withClient(1, 'u', 'e', 100);
        ledger.setBudget(0, 30);
        check.same("nothing used", ledger.budgetShare(0), 0.0f);
        ledger.addEntry(0, 0, 10);
        check.same("a third", ledger.budgetShare(0), 10f / 30f);
        ledger.addEntry(0, 0, 90);
        check.same("more than all", ledger.budgetShare(0), 100f / 30f);
        ledger.invoice(0);
        ledger.correct(0, -600);
        ledger.invoice(0);
        check.same("less than nothing", ledger.budgetShare(0), -500f / 30f);
    }

    private static void warnings() {
        TimerLedger ledger = withClient(1, 'u', 'e', 200);
        ledger.addEntry(0, 0, 79);
        check.same("no budget", ledger.warning(0), 'n');
        ledger.setBudget(0, 100);
        check.same("79 of 100", ledger.warning(0), 'n');
        ledger.setEnd(0, 80);
        check.same("80 of 100", ledger.warning(0), 'w');
        ledger.setEnd(0, 100);
        check.same("100 of 100", ledger.warning(0), 'w');
        ledger.setEnd(0, 101);
        check.same("101 of 100", ledger.warning(0), 'o');
        ledger.setBudget(0, 0);
        check.same("no budget, much used", ledger.warning(0), 'n');
    }

    private static void warningAtTheShare() {
        TimerLedger ledger = withClient(1, 'u', 'e', 1000);
        ledger.addEntry(0, 0, 0);
        for (int budget = 1; budget <= 1000; budget += 37) {
            ledger.setBudget(0, budget);
            for (int used = Math.max(0, budget * 4 / 5 - 1); used <= budget * 4 / 5 + 1; used++) {
                ledger.setEnd(0, used);
                char due = (float) used / (float) budget < 0.8f ? 'n' : used > budget ? 'o' : 'w';
                check.same("warning at " + used + " of " + budget, ledger.warning(0), due);
            }
        }
    }

    private static void mean(String what, TimerLedger ledger, double due) {
        check.same(what + ": meanMinutes", ledger.meanMinutes(), due);
        check.same(what + ": meanBits", ledger.meanBits(), Double.doubleToLongBits(due));
    }

    private static void means() {
        TimerLedger ledger = withClient(1, 'u', 'e', 100);
        ledger.addClient(1, 'u', 'e', 0);
        ledger.addEntry(0, 5, 5);
        mean("an empty entry", ledger, 0.0);
        ledger.addEntry(0, 0, 10);
        ledger.addEntry(1, 0, 10);
        mean("three entries", ledger, 1200.0 / 60.0 / 3.0);
        ledger.setRule('s');
        mean("shared", ledger, 600.0 / 60.0 / 3.0);
        ledger.invoice(0);
        ledger.setRule('f');
        mean("a frozen one is fixed", ledger, 900.0 / 60.0 / 3.0);
        ledger.remove(2);
        mean("a removed one does not count", ledger, 300.0 / 60.0 / 2.0);
        ledger.start(0);
        ledger.pass(7);
        mean("a running one counts", ledger, 720.0 / 60.0 / 3.0);
        TimerLedger small = withClient(1, 'u', 'e', 100);
        for (int entry = 0; entry < 23; entry++) {
            small.addEntry(0, 0, entry == 0 ? 1 : 0);
        }
        mean("a small mean", small, 60.0 / 60.0 / 23.0);
        for (int minutes = 1; minutes <= 64; minutes *= 2) {
            TimerLedger even = withClient(1, 'u', 'e', 100);
            even.addEntry(0, 0, minutes);
            mean("a power of two", even, (double) minutes);
            even.addEntry(0, 0, 0);
            mean("half of it", even, minutes / 2.0);
        }
    }

    private static void consistency() {
        TimerLedger ledger = withClient(7, 'n', 'c', 100);
        ledger.addClient(9, 'u', 'd', 6000);
        ledger.addClient(2, 'd', 'e', 6000);
        for (int round = 0; round < 3; round++) {
            for (int client = 0; client < 3; client++) {
                ledger.addEntry(client, 10 * client, ledger.now() - 7 * round);
                ledger.start(client);
            }
            for (char rule : new char[] {'f', 'l', 's'}) {
                ledger.setRule(rule);
                check.same("consistent by " + rule, ledger.isConsistent(), true);
            }
            ledger.pass(500);
            ledger.invoice(round);
            for (int entry = 6 * round; entry < 6 * round + 6; entry++) {
                if (ledger.state(entry) == 'r') {
                    ledger.stop(entry);
                }
            }
            check.same("consistent after an invoice", ledger.isConsistent(), true);
        }
    }
}
