/** The boundaries that the terms name: time, clients, entries and overlaps. */
public final class BoundariesOfTermsTest {
    private static final Check check = new Check();

    public static void main(String[] args) {
        callsOfOneObject();
        presentMinute();
        minutesOfADay();
        days();
        clients();
        rate();
        budget();
        budgetAtFirst();
        unit();
        mode();
        level();
        entries();
        coveredMinutes();
        coveredMinutesOfAnEmptyEntry();
        endOfARunningEntry();
        runningEntries();
        removedEntriesCoverNothing();
        activeEntriesOfAllClients();
        ruleAtFirst();
        fullRule();
        latestRule();
        latestRuleOfTheSameStart();
        sharedRule();
        sharedRuleInTheOrderOfNumbers();
        sumByThePresentRule();
        fixedWhenFrozen();
        check.end();
    }

    private static void callsOfOneObject() {
        check.sentence("What it is: An object is used for at most 512 calls after it has been made");
        TimerLedger ledger = new TimerLedger();
        ledger.addClient(1, 'u', 'e', 1);
        ledger.start(0);
        for (int call = 3; call < 512; call++) {
            check.same("call " + call, ledger.pass(5), 5 * (call - 2));
        }
        check.same("call 512", ledger.stop(0), 2545);
    }

    // ---- time

    private static void presentMinute() {
        check.sentence("Terms, time: The present minute is initially 0, and it is at most 2999");
        check.answers("initially", TimerLedger::new, x -> x.now(), 0);
        check.answers("1 behind 2998", Scenes.minute(2998), x -> x.pass(1), 2999);
        check.refusesState("2 behind 2998", Scenes.minute(2998), x -> x.pass(2));
        check.refusesState("1 behind 2999", Scenes.minute(2999), x -> x.pass(1));
    }

    private static void minutesOfADay() {
        check.sentence("Terms, time: the day d consists of the minutes from 600 * d to 600 * d + 599");
        for (int day = 0; day < 5; day++) {
            int first = 600 * day;
            int last = Math.min(first + 599, 2998);
            secondsOfDays("the first minute of day " + day, first, first + 1, day, 60);
            secondsOfDays("the last minute of day " + day, last, last + 1, day, 60);
            secondsOfDays("the whole day " + day, first, last + 1, day, 60 * (last + 1 - first));
        }
        for (int i = 1; i < 5; i++) {
            int day = i;
            Scene overTheBorder = Scenes.entry(600 * day - 1, 600 * day + 2);
            check.answers("the minute before day " + day, overTheBorder, x -> x.daySeconds(0, day - 1), 60);
            check.answers("the first minutes of day " + day, overTheBorder, x -> x.daySeconds(0, day), 120);
        }
    }

    /** All seconds of the entry are in one day. */
    private static void secondsOfDays(String what, int start, int end, int dayOfAll, int seconds) {
        for (int i = 0; i < 5; i++) {
            int day = i;
            int due = day == dayOfAll ? seconds : 0;
            check.answers(what + ": daySeconds " + day, Scenes.entry(start, end), x -> x.daySeconds(0, day), due);
            check.answers(what + ": daySecondsByMinutes " + day, Scenes.entry(start, end), x -> x.daySecondsByMinutes(0, day), due);
        }
    }

    private static void days() {
        check.sentence("Terms, time: there are the days 0 to 4");
        Scene always = Scenes.entry(0, 2999);
        check.range("daySeconds", always, 0, 4, (x, day) -> x.daySeconds(0, day), day -> day == 4 ? 599 * 60 : 600 * 60);
        check.range("daySecondsByMinutes", always, 0, 4, (x, day) -> x.daySecondsByMinutes(0, day), day -> day == 4 ? 599 * 60 : 600 * 60);
    }

    // ---- clients

    private static void clients() {
        check.sentence("Terms, clients: There are at most 5 clients, numbered from 0");
        check.answers("the first one", TimerLedger::new, x -> x.addClient(1, 'u', 'e', 0), 0);
        check.answers("the fifth one", Scenes.clients(4), x -> x.addClient(1, 'u', 'e', 0), 4);
        check.refusesState("a sixth one", Scenes.clients(5), x -> x.addClient(1, 'u', 'e', 0));
    }

    private static void rate() {
        check.sentence("Terms, clients: A client has a rate from 0 to 50000 cents for an hour");
        check.range("addClient with rate", TimerLedger::new, 0, 50000, (x, rate) -> x.setRate(x.addClient(1, 'u', 'e', rate), 1), rate -> rate);
        check.range("setRate", Scenes.client(0), 0, 50000, BoundariesOfTermsTest::rateBehindSetRate, rate -> rate);
    }

    private static Object rateBehindSetRate(TimerLedger ledger, int rate) {
        ledger.setRate(0, rate);
        return ledger.setRate(0, 1);
    }

    private static void budget() {
        check.sentence("Terms, clients: a budget from 0 to 9999 minutes");
        check.range("setBudget", Scenes.client(0), 0, 9999, BoundariesOfTermsTest::budgetBehindSetBudget, budget -> budget);
    }

    private static Object budgetBehindSetBudget(TimerLedger ledger, int budget) {
        ledger.setBudget(0, budget);
        return ledger.setBudget(0, 2);
    }

    private static void budgetAtFirst() {
        check.sentence("Terms, clients: a budget .. which is 0 at first");
        check.answers("of a new client", Scenes.client(0), x -> x.setBudget(0, 1), 0);
        check.answers("of a client that has one", Scenes.client(0).then(x -> x.setBudget(0, 1)), x -> x.setBudget(0, 2), 1);
    }

    private static void unit() {
        check.sentence("Terms, clients: a unit from 1 to 60 minutes");
        check.range("addClient with unit", TimerLedger::new, 1, 60, (x, unit) -> x.setRounding(x.addClient(unit, 'u', 'e', 0), 2, 'u', 'e'), unit -> unit);
        check.range("setRounding with unit", Scenes.client(0), 1, 60, BoundariesOfTermsTest::unitBehindSetRounding, unit -> unit);
    }

    private static Object unitBehindSetRounding(TimerLedger ledger, int unit) {
        ledger.setRounding(0, unit, 'u', 'e');
        return ledger.setRounding(0, 2, 'u', 'e');
    }

    private static void mode() {
        check.sentence("Terms, clients: a mode ('u' up, 'd' down, 'n' to the nearest)");
        Scene scene = Scenes.client(100);
        check.letters("addClient with mode", scene, "udn", (x, mode) -> open(x, x.addClient(10, (char) mode, 'e', 0), 7), mode -> mode == 'd' ? 0 : 10);
        check.letters("setRounding with mode", scene, "udn", BoundariesOfTermsTest::fourMinutesBySetRounding, mode -> mode == 'u' ? 10 : 0);
    }

    /** The open minutes behind an entry of so many minutes. */
    private static int open(TimerLedger ledger, int client, int minutes) {
        ledger.addEntry(client, 0, minutes);
        return ledger.openMinutes(client);
    }

    private static Object fourMinutesBySetRounding(TimerLedger ledger, int mode) {
        ledger.setRounding(0, 10, (char) mode, 'e');
        return open(ledger, 0, 4);
    }

    private static void level() {
        check.sentence("Terms, clients: a level ('e' by entry, 'd' by day, 'c' with carried remainders)");
        Scene scene = Scenes.client(700);
        check.letters("addClient with level", scene, "edc", (x, level) -> threeOpen(x, x.addClient(10, 'u', (char) level, 0)), BoundariesOfTermsTest::threeInTens);
        check.letters("setRounding with level", scene, "edc", BoundariesOfTermsTest::threeOpenBySetRounding, BoundariesOfTermsTest::threeInTens);
    }

    private static Object threeOpenBySetRounding(TimerLedger ledger, int level) {
        ledger.setRounding(0, 10, 'u', (char) level);
        return threeOpen(ledger, 0);
    }

    /** The open minutes behind two entries of a minute in one day, and one in the next. */
    private static Object threeOpen(TimerLedger ledger, int client) {
        ledger.addEntry(client, 600, 601);
        ledger.addEntry(client, 1, 2);
        return open(ledger, client, 1);
    }

    private static Object threeInTens(int level) {
        return level == 'e' ? 30 : level == 'd' ? 20 : 10;
    }

    // ---- entries

    private static void entries() {
        check.sentence("Terms, entries: There are at most 24 entries, numbered from 0 in the order in which they were made");
        check.answers("the first one, started", Scenes.entries(0), x -> x.start(0), 0);
        check.answers("the first one, added", Scenes.entries(0), x -> x.addEntry(0, 7, 8), 0);
        check.answers("the second one, though it starts first", Scenes.entry(5, 6), x -> x.addEntry(0, 0, 0), 1);
        check.answers("the last one, started", Scenes.entries(23), x -> x.start(0), 23);
        check.answers("the last one, added", Scenes.entries(23), x -> x.addEntry(0, 7, 8), 23);
        check.refusesState("one more, started", Scenes.entries(24), x -> x.start(0));
        check.refusesState("one more, added", Scenes.entries(24), x -> x.addEntry(0, 7, 8));
        check.refusesState("one more behind a removal", Scenes.entries(24).then(x -> x.remove(3)), x -> x.addEntry(0, 7, 8));
    }

    private static void coveredMinutes() {
        check.sentence("Terms, entries: it covers all minutes from its start up to, but not including, its end");
        isCovered("the minute before the start", Scenes.entry(10, 20), 9, false);
        isCovered("the start", Scenes.entry(10, 20), 10, true);
        isCovered("the minute before the end", Scenes.entry(10, 20), 19, true);
        isCovered("the end", Scenes.entry(10, 20), 20, false);
        isCovered("the first minute of all", Scenes.entry(0, 1), 0, true);
        isCovered("the last minute of all", Scenes.entry(2998, 2999), 2998, true);
    }

    /** A new entry of that minute alone has to share it, or has it for itself. */
    private static void isCovered(String what, Scene scene, int minute, boolean due) {
        Scene shared = scene.then(x -> x.setRule('s'));
        int seconds = due ? 30 : 60;
        check.answers(what + ": counted", shared, x -> x.counted(x.addEntry(0, minute, minute + 1)), seconds);
        check.answers(what + ": countedByMinutes", shared, x -> x.countedByMinutes(x.addEntry(0, minute, minute + 1)), seconds);
    }

    private static void coveredMinutesOfAnEmptyEntry() {
        check.sentence("Terms, entries: up to, but not including, its end (an entry that ends where it starts)");
        isCovered("the minute of an empty entry", Scenes.entry(15, 15), 15, false);
        isCovered("the minute of an entry of one", Scenes.entry(15, 16), 15, true);
        for (char rule : new char[] {'f', 'l', 's'}) {
            check.answers("an empty entry by " + rule, Scenes.entry(15, 15).then(x -> x.setRule(rule)), x -> x.counted(0), 0);
            check.answers("an entry of one by " + rule, Scenes.entry(15, 16).then(x -> x.setRule(rule)), x -> x.counted(0), 60);
        }
    }

    private static void endOfARunningEntry() {
        check.sentence("Terms, entries: The end of a running entry is the present minute");
        Scene started = Scenes.running(1);
        Scene later = started.then(x -> x.pass(1));
        check.answers("just started: end", started, x -> x.endOf(0), 100);
        check.answers("just started: counted", started, x -> x.counted(0), 0);
        check.answers("a minute later: end", later, x -> x.endOf(0), 101);
        check.answers("a minute later: counted", later, x -> x.counted(0), 60);
        isCovered("the last minute", later, 100, true);
        check.answers("a minute after the stop: end", started.then(x -> x.stop(0)).then(x -> x.pass(1)), x -> x.endOf(0), 100);
        check.answers("at the last minute of all", started.thenTimes(4, (x, time) -> x.pass(600)).then(x -> x.pass(499)), x -> x.endOf(0), 2999);
    }

    private static void runningEntries() {
        check.sentence("Terms, entries: At most 4 entries run at the same time");
        Scene ofTwoClients = Scenes.clients(2).thenTimes(4, (x, entry) -> x.start(entry % 2));
        check.answers("the fourth one", Scenes.running(3), x -> x.start(0), 3);
        check.refusesState("a fifth one", Scenes.running(4), x -> x.start(0));
        check.refusesState("a fifth one, of two clients", ofTwoClients, x -> x.start(0));
        check.answers("a fifth one behind a stop", Scenes.running(4).then(x -> x.stop(2)), x -> x.start(0), 4);
        check.answers("a fifth one behind a removal", Scenes.running(4).then(x -> x.remove(2)), x -> x.start(0), 4);
        check.answers("an ended one beside four", Scenes.running(4), x -> x.addEntry(0, 0, 1), 4);
    }

    private static void removedEntriesCoverNothing() {
        check.sentence("Terms, entries: A removed entry covers no minutes");
        Scene removed = Scenes.entries(1).then(x -> x.remove(0));
        isCovered("a minute of an ended one", Scenes.entries(1), 0, true);
        isCovered("a minute of a removed one", removed, 0, false);
        check.answers("a removed one: counted", removed, x -> x.counted(0), 0);
        check.answers("a removed one: countedByMinutes", removed, x -> x.countedByMinutes(0), 0);
        check.answers("another one starts later", latestOfTwo(0, 1), x -> x.counted(0), 60);
        check.answers("a removed one starts later", latestOfTwo(0, 1).then(x -> x.remove(1)), x -> x.counted(0), 600);
    }

    // ---- overlaps

    private static void activeEntriesOfAllClients() {
        check.sentence("Terms, overlaps: the active entries are all entries that cover it, of all clients, frozen ones included");
        isCovered("by none", Scenes.entries(0), 0, false);
        isCovered("by another client's", Scenes.clients(2).then(x -> x.remove(0)), 0, true);
        isCovered("by no longer another client's", Scenes.clients(2).then(x -> x.remove(0)).then(x -> x.remove(1)), 0, false);
        isCovered("by a frozen one", Scenes.frozenEntries(1), 0, true);
        isCovered("by a running one", Scenes.running(1).then(x -> x.pass(1)), 100, true);
    }

    private static void ruleAtFirst() {
        check.sentence("Terms, overlaps: The rule is initially 'f'");
        check.answers("the first one", TimerLedger::new, x -> x.setRule('s'), 'f');
        check.answers("a minute of two entries at first", Scenes.clients(2), x -> x.counted(0), 300);
        check.answers("a minute of two entries by another rule", Scenes.clients(2).then(x -> x.setRule('s')), x -> x.counted(0), 150);
    }

    private static void secondsAmong(int entries, char rule, int entry, int due) {
        String what = "entry " + entry + " among " + entries + " by " + rule;
        check.answers(what + ": counted", Scenes.inOneMinute(entries, rule), x -> x.counted(entry), due);
        check.answers(what + ": countedByMinutes", Scenes.inOneMinute(entries, rule), x -> x.countedByMinutes(entry), due);
    }

    private static void fullRule() {
        check.sentence("Terms, overlaps: by the rule 'f' (full), each active entry counts 60 seconds");
        for (int entries : new int[] {1, 2, 24}) {
            secondsAmong(entries, 'f', 0, 60);
            secondsAmong(entries, 'f', entries - 1, 60);
        }
    }

    /** Two entries up to minute 10, by the rule 'l'. */
    private static Scene latestOfTwo(int firstStart, int secondStart) {
        return Scenes.client(100).then(x -> x.setRule('l'))
            .then(x -> x.addEntry(0, firstStart, 10)).then(x -> x.addEntry(0, secondStart, 10));
    }

    private static void secondsOfTwo(int firstStart, int secondStart, int firstDue, int secondDue) {
        String what = "starts " + firstStart + " and " + secondStart;
        Scene scene = latestOfTwo(firstStart, secondStart);
        check.answers(what + ": counted 0", scene, x -> x.counted(0), firstDue);
        check.answers(what + ": counted 1", scene, x -> x.counted(1), secondDue);
        check.answers(what + ": countedByMinutes 0", scene, x -> x.countedByMinutes(0), firstDue);
        check.answers(what + ": countedByMinutes 1", scene, x -> x.countedByMinutes(1), secondDue);
    }

    private static void latestRule() {
        check.sentence("Terms, overlaps: by the rule 'l' (latest), the active entry with the latest start counts 60 seconds .. and the others none");
        secondsOfTwo(4, 5, 60, 300);
        secondsOfTwo(6, 5, 240, 60);
        secondsOfTwo(0, 10, 600, 0);
        secondsAmong(1, 'l', 0, 60);
    }

    private static void latestRuleOfTheSameStart() {
        check.sentence("Terms, overlaps: the active entry with the latest start .. of several such entries the one with the highest number");
        secondsOfTwo(5, 5, 0, 300);
        secondsOfTwo(6, 5, 240, 60);
        for (int entry = 0; entry < 24; entry++) {
            secondsAmong(24, 'l', entry, entry == 23 ? 60 : 0);
        }
    }

    private static void sharedRule() {
        check.sentence("Terms, overlaps: each one counts 60 / k seconds, rounded down, and the first (60 modulo k) of them .. one second more");
        for (int entries = 1; entries <= 24; entries++) {
            for (int entry = 0; entry < entries; entry++) {
                secondsAmong(entries, 's', entry, 60 / entries + (entry < 60 % entries ? 1 : 0));
            }
        }
    }

    private static void sharedRuleInTheOrderOfNumbers() {
        check.sentence("Terms, overlaps: the first (60 modulo k) of them, in the order of their numbers");
        // Seven entries share minute 7, and four seconds are left over; the first by number starts last, and number 1 is removed.
        Scene scene = Scenes.client(100).then(x -> x.setRule('s'))
            .thenTimes(8, (x, entry) -> x.addEntry(0, 7 - entry, 8))
            .then(x -> x.remove(1));
        check.answers("the first one, which starts last", scene, x -> x.counted(0), 9);
        check.answers("the last one, which starts first", scene, x -> x.counted(7), 60 + 30 + 20 + 15 + 12 + 10 + 10 + 8);
        Scene allInMinute7 = scene.thenTimes(6, (x, time) -> x.setStart(time + 2, 7));
        int[] due = {9, 0, 9, 9, 9, 8, 8, 8};
        for (int i = 0; i < 8; i++) {
            int entry = i;
            check.answers("all in one minute: entry " + entry, allInMinute7, x -> x.counted(entry), due[entry]);
        }
    }

    private static void sumByThePresentRule() {
        check.sentence("Terms, overlaps: The counted seconds of an entry are the sum over its minutes, by the present rule");
        // The entry 0 has minutes for itself, shares some with a frozen entry, and some with two more.
        Scene scene = Scenes.client(100).then(x -> x.addEntry(0, 20, 40)).then(x -> x.invoice(0))
            .then(x -> x.addEntry(0, 10, 50)).then(x -> x.addEntry(0, 30, 40));
        char[] rules = {'f', 'l', 's'};
        int[] dues = {40 * 60, 20 * 60, 20 * 60 + 10 * 30 + 10 * 20};
        for (int i = 0; i < 3; i++) {
            char rule = rules[i];
            check.answers("counted by " + rule, scene.then(x -> x.setRule('s')).then(x -> x.setRule(rule)), x -> x.counted(1), dues[i]);
            check.answers("countedByMinutes by " + rule, scene.then(x -> x.setRule('l')).then(x -> x.setRule(rule)), x -> x.countedByMinutes(1), dues[i]);
        }
        check.answers("no minutes", scene.then(x -> x.setStart(1, 50)), x -> x.counted(1), 0);
        check.answers("one minute", scene.then(x -> x.setStart(1, 49)), x -> x.counted(1), 60);
    }

    private static void fixedWhenFrozen() {
        check.sentence("Terms, overlaps: when an entry is frozen, its counted seconds become fixed");
        Scene ended = Scenes.inOneMinute(2, 's');
        Scene frozen = ended.then(x -> x.invoice(0));
        check.answers("an ended one by a new rule", ended.then(x -> x.setRule('f')), x -> x.counted(0), 60);
        check.answers("a frozen one by a new rule", frozen.then(x -> x.setRule('f')), x -> x.counted(0), 30);
        check.answers("an ended one beside one more", ended.then(x -> x.addEntry(0, 0, 1)), x -> x.counted(0), 20);
        check.answers("a frozen one beside one more", frozen.then(x -> x.addEntry(0, 0, 1)), x -> x.counted(0), 30);
        check.answers("a frozen one beside one more, by minutes", frozen.then(x -> x.addEntry(0, 0, 1)), x -> x.countedByMinutes(0), 30);
    }
}
