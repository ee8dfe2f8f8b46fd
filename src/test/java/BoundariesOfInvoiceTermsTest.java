/** The boundaries that the terms name: invoices, corrections and budgets. */
public final class BoundariesOfInvoiceTermsTest {
    private static final Check check = new Check();

    public static void main(String[] args) {
        invoices();
        frozenEntries();
        runningEntriesAreLeftOut();
        leftOutEntriesStayActive();
        nothingCountsBesideALeftOutEntry();
        entryLines();
        dayLines();
        correctionLines();
        amounts();
        totalsBeginWithNothing();
        totalsInTheOrderOfLines();
        laterChanges();
        corrections();
        correctionsOfOneEntry();
        mostCorrections();
        usedMinutes();
        correctionsThatWait();
        check.end();
    }

    private static Object linesOfInvoice(TimerLedger ledger) {
        return Snapshot.linesOf(ledger, ledger.invoice(0));
    }

    private static void makesLines(String what, Scene scene, String due) {
        check.answers(what, scene, BoundariesOfInvoiceTermsTest::linesOfInvoice, due);
    }

    /** With an entry of a client whose time is rounded up to hours. */
    private static Scene hours(char level, int start, int end) {
        return Scenes.client(60, 'u', level, 6000, 2999).then(x -> x.addEntry(0, start, end));
    }

    private static void invoices() {
        check.sentence("Terms, invoices: There are at most 8 invoices, numbered from 0");
        check.answers("the first one", Scenes.entries(1), x -> x.invoice(0), 0);
        check.answers("the last one", Scenes.invoices(7).then(x -> x.addEntry(0, 0, 1)), x -> x.invoice(0), 7);
        check.refusesState("one more", Scenes.invoices(8).then(x -> x.addEntry(0, 0, 1)), x -> x.invoice(0));
    }

    private static void frozenEntries() {
        check.sentence("Terms, invoices: An invoice for a client freezes all ended entries of the client that are not frozen or removed");
        Scene scene = Scenes.allStates()
            .then(x -> x.addClient(1, 'u', 'e', 0)).then(x -> x.addEntry(1, 0, 1)).then(x -> x.addEntry(0, 0, 0));
        check.answers("before it", scene, x -> Snapshot.statesOf(x), "rfxxeee");
        check.answers("behind it", scene.then(x -> x.invoice(0)), x -> Snapshot.statesOf(x), "rfxxfef");
        makesLines("its lines", scene, "e6:0 e4:10");
        check.answers("24 of them", Scenes.entries(24).then(x -> x.invoice(0)), x -> Snapshot.statesOf(x), "ffffffffffffffffffffffff");
    }

    private static void runningEntriesAreLeftOut() {
        check.sentence("Terms, invoices: as if those were the only open entries of the client (running ones are left out)");
        String[][] dues = {{"e", "e1:10", "e0:10 e1:10"}, {"c", "e1:10", "e0:10 e1:0"}, {"d", "d0:10", "d0:10"}};
        for (String[] due : dues) {
            // Two entries of the same five minutes, and the first one runs.
            Scene scene = Scenes.client(10, 'u', due[0].charAt(0), 6000, 100)
                .then(x -> x.start(0)).then(x -> x.pass(5)).then(x -> x.addEntry(0, 100, 105));
            makesLines("beside a running one by " + due[0], scene, due[1]);
            makesLines("beside an ended one by " + due[0], scene.then(x -> x.stop(0)), due[2]);
        }
    }

    /** At minute 100: the entry 0 is ended and covers 40 to 80, and the entry 1 of the same client runs since so many minutes. */
    private static Scene besideARunningOne(char rule, char level, int since) {
        return Scenes.client(1, 'u', level, 6000, 100).then(x -> x.setRule(rule))
            .then(x -> x.addEntry(0, 40, 80)).then(x -> x.start(0)).then(x -> x.setStart(1, since));
    }

    private static void leftOutEntriesStayActive() {
        check.sentence("Terms, overlaps: the active entries are all entries that cover it (also those that an invoice leaves out of its lines)");
        char[] rules = {'f', 'l', 's'};
        int[] dues = {40, 10, 10 + 15};
        for (int i = 0; i < 3; i++) {
            int due = dues[i];
            for (char level : new char[] {'e', 'c', 'd'}) {
                String what = "beside a running one by " + rules[i] + " and " + level;
                Scene scene = besideARunningOne(rules[i], level, 50);
                makesLines(what, scene, (level == 'd' ? "d0:" : "e0:") + due);
                Scene invoiced = scene.then(x -> x.invoice(0));
                check.answers(what + ": the running one counts", invoiced, x -> x.counted(1), scene.make().counted(1));
                check.answers(what + ": the fixed seconds", invoiced.then(x -> x.remove(1)), x -> x.counted(0), 60 * due);
                check.answers(what + ": by minutes", invoiced.then(x -> x.remove(1)), x -> x.countedByMinutes(0), 60 * due);
                check.answers(what + ": had it gone before", scene.then(x -> x.remove(1)).then(x -> x.invoice(0)), x -> x.counted(0), 2400);
            }
        }
    }

    private static void nothingCountsBesideALeftOutEntry() {
        check.sentence("Terms, overlaps: the active entry with the latest start counts .. and the others none (also beside one that an invoice leaves out)");
        makesLines("none counts, by entry", besideARunningOne('l', 'e', 40), "e0:0");
        makesLines("none counts, carried", besideARunningOne('l', 'c', 40), "e0:0");
        makesLines("none counts, by day", besideARunningOne('l', 'd', 40), "");
        check.answers("frozen without a line", besideARunningOne('l', 'd', 40).then(x -> x.invoice(0)), x -> Snapshot.statesOf(x), "fr");
        check.answers("fixed at nothing", besideARunningOne('l', 'd', 40).then(x -> x.invoice(0)).then(x -> x.remove(1)), x -> x.counted(0), 0);
        makesLines("one counts, by day", besideARunningOne('l', 'd', 41), "d0:1");
    }

    private static void entryLines() {
        check.sentence("Terms, invoices: by the levels 'e' and 'c', a line 'e' for each of them, in their order, with its rounded minutes");
        for (char level : new char[] {'e', 'c'}) {
            makesLines("an empty entry by " + level, hours(level, 0, 0), "e0:0");
            makesLines("an entry of a minute by " + level, hours(level, 0, 1), "e0:60");
        }
        check.answers("24 entries", Scenes.frozenEntries(24), x -> x.lines(0), 24);
    }

    private static void dayLines() {
        check.sentence("Terms, invoices: by the level 'd', a line 'd' for each day, in order, in which they have at least one counted second");
        makesLines("an empty entry", hours('d', 600, 600), "");
        makesLines("an entry of a minute", hours('d', 600, 601), "d1:60");
        makesLines("an entry of all days", hours('d', 0, 2999), "d0:600 d1:600 d2:600 d3:600 d4:600");
        makesLines("an entry up to the last day", hours('d', 599, 2400), "d0:60 d1:600 d2:600 d3:600");
        Scene another = Scenes.client(60, 'u', 'd', 6000, 2999).then(x -> x.addClient(1, 'u', 'e', 0));
        makesLines("an entry behind another client's of the last day", another.then(x -> x.addEntry(1, 2400, 2999)).then(x -> x.addEntry(0, 0, 1)), "d0:60");
        makesLines("an entry before another client's of the first day", another.then(x -> x.addEntry(0, 2400, 2401)).then(x -> x.addEntry(1, 0, 600)), "d4:60");
        Scene twoSeconds = Scenes.inOneMinute(23, 's').then(x -> x.addClient(60, 'd', 'd', 0)).then(x -> x.addEntry(1, 0, 1));
        check.answers("2 seconds, rounded down to nothing", twoSeconds, x -> Snapshot.linesOf(x, x.invoice(1)), "d0:0");
        Scene neverTheLatest = hours('d', 0, 2).then(x -> x.setRule('l'))
            .then(x -> x.addClient(1, 'u', 'e', 0)).then(x -> x.addEntry(1, 0, 2));
        makesLines("two minutes of which no second counts", neverTheLatest, "");
        makesLines("two minutes of which one counts", neverTheLatest.then(x -> x.setStart(1, 1)), "d0:60");
    }

    private static void correctionLines() {
        check.sentence("Terms, invoices: a line 'c' follows for each correction of the client that was not in an invoice yet, in the order in which they were made");
        Scene three = Scenes.frozenEntries(2).then(x -> x.correct(1, 5)).then(x -> x.correct(0, -600)).then(x -> x.correct(1, 600));
        makesLines("none", Scenes.frozenEntries(2).then(x -> x.addEntry(0, 0, 1)), "e2:1");
        makesLines("three alone", three, "c1:5 c0:-600 c1:600");
        makesLines("three behind an entry", three.then(x -> x.addEntry(0, 0, 1)), "e2:1 c1:5 c0:-600 c1:600");
        makesLines("three behind carried minutes", three.then(x -> x.setRounding(0, 1, 'u', 'c')).then(x -> x.addEntry(0, 0, 1)), "e2:1 c1:5 c0:-600 c1:600");
        makesLines("three behind a day", three.then(x -> x.setRounding(0, 1, 'u', 'd')).then(x -> x.addEntry(0, 0, 1)), "d0:1 c1:5 c0:-600 c1:600");
        makesLines("one behind three that were in an invoice", three.then(x -> x.invoice(0)).then(x -> x.correct(0, 1)), "c0:1");
        check.answers("all 16", Scenes.corrections(16), x -> x.lines(x.invoice(0)), 16);
        makesLines("another client's", Scenes.clients(2).then(x -> x.invoice(1)).then(x -> x.correct(1, 7)), "e0:5");
    }

    private static void amounts() {
        check.sentence("Terms, invoices: its minutes, converted to float, times the present rate, converted to float, divided by 60.0f");
        for (int rate : new int[] {0, 1, 49999, 50000}) {
            for (int minutes : new int[] {0, 1, 7, 2999}) {
                Scene scene = Scenes.client(1, 'u', 'e', rate, 2999).then(x -> x.addEntry(0, 0, minutes)).then(x -> x.invoice(0));
                check.answers(minutes + " minutes at the rate " + rate, scene, x -> x.lineAmount(0, 0), (float) minutes * (float) rate / 60.0f);
            }
        }
        // A product behind 2^24 is rounded before it is divided: by doubles, or divided first, it would be 453647.75f or more.
        Scene rounded = Scenes.client(1, 'u', 'e', 49043, 2999).then(x -> x.addEntry(0, 0, 555)).then(x -> x.invoice(0));
        check.answers("a product that no float holds", rounded, x -> x.lineAmount(0, 0), 453647.72f);
        check.answers("the rate of that time", Scenes.entries(1).then(x -> x.setRate(0, 60)), x -> x.lineAmount(x.invoice(0), 0), 1.0f);
        check.answers("less than nothing", Scenes.corrections(0).then(x -> x.correct(0, -600)), x -> x.lineAmount(x.invoice(0), 0), -60000.0f);
    }

    private static void totalsBeginWithNothing() {
        check.sentence("Terms, invoices: The total of an invoice is a float: it begins with 0.0f");
        Scene noLines = hours('d', 0, 0).then(x -> x.invoice(0));
        check.answers("no lines", noLines, x -> x.total(0), 0.0f);
        check.answers("no lines: bits", noLines, x -> x.totalBits(0), 0);
        Scene fromBelow = Scenes.corrections(0).then(x -> x.setRate(0, 0)).then(x -> x.correct(0, -1)).then(x -> x.invoice(0));
        check.answers("an amount of -0.0f", fromBelow, x -> x.lineAmount(1, 0), -0.0f);
        check.answers("0.0f and -0.0f", fromBelow, x -> x.total(1), 0.0f);
        check.answers("0.0f and -0.0f: bits", fromBelow, x -> x.totalBits(1), 0);
        check.answers("one line", Scenes.frozenEntries(1), x -> x.total(0), 100.0f);
    }

    private static void totalsInTheOrderOfLines() {
        check.sentence("Terms, invoices: and the amounts of its lines are added in their order");
        // Added to one great amount, small ones lose another part than added before it.
        Scene greatFirst = Scenes.client(1, 'u', 'e', 49999, 2999).then(x -> x.addEntry(0, 0, 2999))
            .thenTimes(23, (x, entry) -> x.addEntry(0, entry + 1, entry + 2));
        Scene greatLast = greatFirst.then(x -> x.setStart(0, 100));
        float small = 1.0f * 49999.0f / 60.0f;
        float fromGreat = 0.0f + 2999.0f * 49999.0f / 60.0f;
        float fromSmall = 0.0f;
        for (int entry = 0; entry < 23; entry++) {
            fromGreat = fromGreat + small;
            fromSmall = fromSmall + small;
        }
        check.answers("a great amount first", greatFirst, x -> x.total(x.invoice(0)), fromGreat);
        check.answers("six amounts that are rounded, and their sums too", sixAmounts(), x -> x.total(x.invoice(0)), 5444123.0f);
        check.answers("a great amount last", greatLast, x -> x.total(x.invoice(0)), fromSmall + 2899.0f * 49999.0f / 60.0f);
    }

    /** Added as doubles and converted then, the six amounts would be 5444122.5f, and less if they too were doubles. */
    private static Scene sixAmounts() {
        return Scenes.client(1, 'u', 'e', 49002, 2999).thenTimes(6, (x, entry) -> x.addEntry(0, 0, 1111));
    }

    private static void laterChanges() {
        check.sentence("Terms, invoices: Later changes do not affect an invoice");
        Scene ended = Scenes.client(10, 'u', 'e', 6000, 100).then(x -> x.addEntry(0, 0, 15));
        Scene invoiced = ended.then(x -> x.invoice(0));
        makesLines("a new rounding before it", ended.then(x -> x.setRounding(0, 1, 'd', 'd')), "d0:15");
        check.answers("a new rate before it", ended.then(x -> x.setRate(0, 1200)), x -> x.total(x.invoice(0)), 400.0f);
        staysAsItWas("a new rate", invoiced.then(x -> x.setRate(0, 1200)));
        staysAsItWas("a new rounding", invoiced.then(x -> x.setRounding(0, 1, 'd', 'd')));
        staysAsItWas("a new rule and a new entry", invoiced.then(x -> x.setRule('s')).then(x -> x.addEntry(0, 0, 15)));
        staysAsItWas("a correction", invoiced.then(x -> x.correct(0, 5)));
        staysAsItWas("another invoice", invoiced.then(x -> x.correct(0, 5)).then(x -> x.invoice(0)));
        staysAsItWas("a pass", invoiced.then(x -> x.pass(600)));
    }

    private static void staysAsItWas(String what, Scene scene) {
        check.answers(what + ": lines", scene, x -> Snapshot.linesOf(x, 0), "e0:20");
        check.answers(what + ": amount", scene, x -> x.lineAmount(0, 0), 2000.0f);
        check.answers(what + ": total", scene, x -> x.total(0), 2000.0f);
    }

    private static void corrections() {
        check.sentence("Terms, corrections: A frozen entry can be corrected by a number of minutes from -600 to 600, but not 0");
        Scene frozen = Scenes.corrections(0);
        check.range("correct by", frozen, -600, 600, (x, minutes) -> x.correct(0, minutes), minutes -> minutes);
        check.answers("correct by -1", frozen, x -> x.correct(0, -1), -1);
        check.refusesArgument("correct by 0", frozen, x -> x.correct(0, 0));
        check.answers("correct by 1", frozen, x -> x.correct(0, 1), 1);
        check.refusesState("an ended entry", Scenes.entries(1), x -> x.correct(0, 1));
    }

    private static void correctionsOfOneEntry() {
        check.sentence("Terms, corrections: any number of times");
        check.answers("the first time", Scenes.corrections(0), x -> x.correct(0, 1), 1);
        check.answers("the second time", Scenes.corrections(1), x -> x.correct(0, 1), 2);
        check.answers("the last time there can be", Scenes.corrections(15), x -> x.correct(0, 1), 16);
    }

    private static void mostCorrections() {
        check.sentence("Terms, corrections: There are at most 16 corrections");
        check.answers("the last one", Scenes.corrections(15), x -> x.correct(0, -600), 15 - 600);
        check.answers("the last one, behind 15 in an invoice", Scenes.corrections(15).then(x -> x.invoice(0)), x -> x.correct(0, 7), 7);
        check.refusesState("one more", Scenes.corrections(16), x -> x.correct(0, -600));
        check.refusesState("one more, behind 16 in an invoice", Scenes.corrections(16).then(x -> x.invoice(0)), x -> x.correct(0, 7));
        Scene another = Scenes.clients(2).then(x -> x.invoice(0)).then(x -> x.invoice(1)).thenTimes(16, (x, time) -> x.correct(0, 1));
        check.refusesState("one more, of another client", another, x -> x.correct(1, 1));
    }

    private static void usedMinutes() {
        check.sentence("Terms, budgets: The used minutes of a client are the sum of the minutes of all lines of its invoices, plus its open minutes");
        check.answers("nothing at all", Scenes.entries(0), x -> x.usedMinutes(0), 0);
        check.answers("an open entry", Scenes.entries(1), x -> x.usedMinutes(0), 1);
        check.answers("8 invoices", Scenes.invoices(8), x -> x.usedMinutes(0), 36);
        check.answers("8 invoices and an open entry", Scenes.invoices(8).then(x -> x.addEntry(0, 0, 1)), x -> x.usedMinutes(0), 37);
        check.answers("8 invoices and a running entry", Scenes.invoices(8).then(x -> x.start(0)).then(x -> x.pass(2)), x -> x.usedMinutes(0), 38);
        check.answers("8 invoices and an entry that just started", Scenes.invoices(8).then(x -> x.start(0)), x -> x.usedMinutes(0), 36);
        check.answers("another client's invoice", Scenes.clients(2).then(x -> x.invoice(1)), x -> x.usedMinutes(0), 5);
    }

    private static void correctionsThatWait() {
        check.sentence("Terms, budgets: Corrections that are not in an invoice yet do not count");
        check.answers("16 that wait", Scenes.corrections(16), x -> x.usedMinutes(0), 1);
        check.answers("16 in an invoice", Scenes.corrections(16).then(x -> x.invoice(0)), x -> x.usedMinutes(0), 17);
        Scene less = Scenes.corrections(0).then(x -> x.correct(0, -600));
        check.answers("-600 that wait", less, x -> x.usedMinutes(0), 1);
        check.answers("-600 in an invoice", less.then(x -> x.invoice(0)), x -> x.usedMinutes(0), -599);
    }
}
