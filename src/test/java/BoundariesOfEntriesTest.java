/** The boundaries that the promises 10 to 23 name: making, editing, removing and asking of entries, and the output line. */
public final class BoundariesOfEntriesTest {
    private static final Check check = new Check();

    public static void main(String[] args) {
        promise10NoSuchClient();
        promise10MostEntries();
        promise10FourRunning();
        promise11NoSuchEntry();
        promise11NotRunning();
        promise11Minutes();
        promise12Start();
        promise12End();
        promise12NoSuchClient();
        promise12OutOfRange();
        promise12MostEntries();
        promise13Minute();
        promise13NoSuchEntry();
        promise13FrozenOrRemoved();
        promise13OutOfRange();
        promise14Minute();
        promise14NoSuchEntry();
        promise14NotEnded();
        promise14OutOfRange();
        promise15Remaining();
        promise15NoSuchEntry();
        promise15FrozenOrRemoved();
        promise16Entries();
        promise17States();
        promise17NoSuchEntry();
        promise18Removed();
        promise18NoSuchEntry();
        promise19RemovedWhileRunning();
        promise19NoSuchEntry();
        promise20Removed();
        promise20NoSuchEntry();
        promise21Frozen();
        promise21Removed();
        promise21NoSuchEntry();
        promise22Line();
        promise22OldContent();
        promise22NoSuchEntry();
        promise23EmptyLine();
        promise23CountedFrom0();
        promise23Index();
        check.end();
    }

    // ---- start and stop

    private static void promise10NoSuchClient() {
        check.sentence("Promise 10, start: Throws IndexOutOfBoundsException if there is no such client");
        for (int clients : new int[] {1, 5}) {
            check.answers("the entry's owner", Scenes.clients(clients).then(x -> x.start(clients - 1)), x -> Snapshot.written(x, clients), clients + "r" + (clients - 1) + ":100-100=0");
        }
        check.refusesIndex("client 0 of none", Scenes.clients(0), x -> x.start(0));
        check.refusesIndex("client -1", Scenes.clients(1), x -> x.start(-1));
        check.refusesIndex("client 1 of 1", Scenes.clients(1), x -> x.start(1));
        check.refusesIndex("client 5 of 5", Scenes.clients(5), x -> x.start(5));
        check.refusesIndex("the greatest int", Scenes.clients(5), x -> x.start(Integer.MAX_VALUE));
        check.refusesIndex("the least int", Scenes.clients(5), x -> x.start(Integer.MIN_VALUE));
    }

    private static void promise10MostEntries() {
        check.sentence("Promise 10, start: Throws IllegalStateException if there are 24 entries");
        check.answers("behind 23", Scenes.entries(23), x -> x.start(0), 23);
        check.refusesState("behind 24", Scenes.entries(24), x -> x.start(0));
        check.refusesState("behind 24, one of them removed", Scenes.entries(24).then(x -> x.remove(23)), x -> x.start(0));
        check.refusesState("behind 24, all of them frozen", Scenes.frozenEntries(24), x -> x.start(0));
    }

    private static void promise10FourRunning() {
        check.sentence("Promise 10, start: Throws IllegalStateException if .. 4 entries are running");
        check.answers("beside 3", Scenes.running(3), x -> x.start(0), 3);
        check.refusesState("beside 4", Scenes.running(4), x -> x.start(0));
        check.refusesState("beside 4, and ended ones", Scenes.entries(2).thenTimes(4, (x, time) -> x.start(0)), x -> x.start(0));
        check.answers("behind the end of one of 4", Scenes.running(4).then(x -> x.stop(0)), x -> x.start(0), 4);
        check.answers("behind the removal of one of 4", Scenes.running(4).then(x -> x.remove(3)), x -> x.start(0), 4);
    }

    /** So many entries; the first one has run for 17 minutes, and the last one, if there are more, for 7. */
    private static Scene runningFirstAndLast(int entries) {
        return Scenes.running(Math.min(entries, 1))
            .thenTimes(Math.max(entries - 2, 0), (x, entry) -> x.addEntry(0, 0, 1))
            .then(x -> x.pass(10))
            .thenTimes(entries > 1 ? 1 : 0, (x, entry) -> x.start(0))
            .then(x -> x.pass(7));
    }

    private static void promise11NoSuchEntry() {
        check.sentence("Promise 11, stop: Throws IndexOutOfBoundsException if there is no such entry");
        check.numbers("entry", BoundariesOfEntriesTest::runningFirstAndLast, 24, (x, entry) -> x.stop(entry), entry -> entry == 0 ? 17 : 7);
    }

    private static void promise11NotRunning() {
        check.sentence("Promise 11, stop: Throws IllegalStateException if it is not running");
        check.answers("running", Scenes.allStates(), x -> x.stop(0), 10);
        check.refusesState("frozen", Scenes.allStates(), x -> x.stop(1));
        check.refusesState("removed", Scenes.allStates(), x -> x.stop(2));
        check.refusesState("removed while it ran", Scenes.allStates(), x -> x.stop(3));
        check.refusesState("ended", Scenes.allStates(), x -> x.stop(4));
        check.refusesState("just stopped", Scenes.allStates().then(x -> x.stop(0)), x -> x.stop(0));
    }

    private static void promise11Minutes() {
        check.sentence("Promise 11, stop: Returns the number of minutes that it covers");
        Scene atMinute0 = Scenes.client(0).then(x -> x.start(0));
        check.answers("none", atMinute0, x -> x.stop(0), 0);
        check.answers("one", atMinute0.then(x -> x.pass(1)), x -> x.stop(0), 1);
        check.answers("all", atMinute0.thenTimes(4, (x, time) -> x.pass(600)).then(x -> x.pass(599)), x -> x.stop(0), 2999);
        check.answers("none, by its new start", atMinute0.then(x -> x.pass(9)).then(x -> x.setStart(0, 9)), x -> x.stop(0), 0);
    }

    // ---- addEntry

    private static void promise12Start() {
        check.sentence("Promise 12, addEntry: `start`: its start, 0 or more");
        check.range("start", Scenes.entries(0), 0, 100, (x, start) -> x.startOf(x.addEntry(0, start, 100)), start -> start);
        check.answers("start 1", Scenes.entries(0), x -> x.startOf(x.addEntry(0, 1, 100)), 1);
    }

    private static void promise12End() {
        check.sentence("Promise 12, addEntry: `end`: its end, from the start to the present minute");
        check.range("end", Scenes.entries(0), 40, 100, (x, end) -> x.endOf(x.addEntry(0, 40, end)), end -> end);
        check.range("end at minute 0", Scenes.client(0), 0, 0, (x, end) -> x.endOf(x.addEntry(0, 0, end)), end -> end);
        check.range("end at the last minute", Scenes.client(2999), 2999, 2999, (x, end) -> x.endOf(x.addEntry(0, 2999, end)), end -> end);
    }

    private static void promise12NoSuchClient() {
        check.sentence("Promise 12, addEntry: Throws IndexOutOfBoundsException if there is no such client");
        check.numbers("client", Scenes::clients, 5, (x, client) -> Snapshot.written(x, x.addEntry(client, 30, 40)).substring(1), client -> "e" + client + ":30-40=600");
    }

    private static void promise12OutOfRange() {
        check.sentence("Promise 12, addEntry: Throws IllegalArgumentException if a minute is out of range");
        Scene scene = Scenes.entries(3);
        check.refusesArgument("-1 to 5", scene, x -> x.addEntry(0, -1, 5));
        check.refusesArgument("-2 to -1", scene, x -> x.addEntry(0, -2, -1));
        check.answers("0 to 5", scene, x -> x.addEntry(0, 0, 5), 3);
        check.refusesArgument("5 to 4", scene, x -> x.addEntry(0, 5, 4));
        check.answers("5 to 5", scene, x -> x.addEntry(0, 5, 5), 3);
        check.answers("5 to now", scene, x -> x.addEntry(0, 5, 100), 3);
        check.refusesArgument("5 to a minute later", scene, x -> x.addEntry(0, 5, 101));
        check.refusesArgument("from and to a minute later", scene, x -> x.addEntry(0, 101, 101));
        check.refusesArgument("the least and the greatest int", scene, x -> x.addEntry(0, Integer.MIN_VALUE, Integer.MAX_VALUE));
    }

    private static void promise12MostEntries() {
        check.sentence("Promise 12, addEntry: Throws IllegalStateException if there are 24 entries");
        check.answers("behind 23", Scenes.entries(23), x -> x.addEntry(0, 0, 1), 23);
        check.refusesState("behind 24", Scenes.entries(24), x -> x.addEntry(0, 0, 1));
        check.refusesState("behind 24, one of them removed", Scenes.entries(24).then(x -> x.remove(0)), x -> x.addEntry(0, 0, 1));
    }

    // ---- setStart and setEnd

    private static Object startBehindSetStart(TimerLedger ledger, int entry, int minute) {
        ledger.setStart(entry, minute);
        return ledger.startOf(entry);
    }

    private static void promise13Minute() {
        check.sentence("Promise 13, setStart: `minute`: the new start, from 0 to the end of the entry");
        check.range("of an ended one", Scenes.allStates(), 0, 30, (x, minute) -> startBehindSetStart(x, 4, minute), minute -> minute);
        check.range("of a running one", Scenes.allStates(), 0, 100, (x, minute) -> startBehindSetStart(x, 0, minute), minute -> minute);
        check.range("of an empty one", Scenes.entry(0, 0), 0, 0, (x, minute) -> startBehindSetStart(x, 0, minute), minute -> minute);
    }

    private static void promise13NoSuchEntry() {
        check.sentence("Promise 13, setStart: Throws IndexOutOfBoundsException if there is no such entry");
        check.numbers("entry", Scenes::entries, 24, (x, entry) -> x.setStart(entry, 0), entry -> entry);
    }

    private static void promise13FrozenOrRemoved() {
        check.sentence("Promise 13, setStart: Throws IllegalStateException if it is frozen or removed");
        check.answers("running", Scenes.allStates(), x -> x.setStart(0, 7), 90);
        check.refusesState("frozen", Scenes.allStates(), x -> x.setStart(1, 65));
        check.refusesState("removed", Scenes.allStates(), x -> x.setStart(2, 45));
        check.refusesState("removed while it ran", Scenes.allStates(), x -> x.setStart(3, 45));
        check.answers("ended", Scenes.allStates(), x -> x.setStart(4, 7), 20);
    }

    private static void promise13OutOfRange() {
        check.sentence("Promise 13, setStart: Throws IllegalArgumentException if the minute is out of range");
        check.refusesArgument("-1", Scenes.allStates(), x -> x.setStart(4, -1));
        check.answers("0", Scenes.allStates(), x -> x.setStart(4, 0), 20);
        check.answers("the end", Scenes.allStates(), x -> x.setStart(4, 30), 20);
        check.refusesArgument("behind the end", Scenes.allStates(), x -> x.setStart(4, 31));
        check.answers("now, of a running one", Scenes.allStates(), x -> x.setStart(0, 100), 90);
        check.refusesArgument("behind now, of a running one", Scenes.allStates(), x -> x.setStart(0, 101));
        check.answers("a minute later, now", Scenes.allStates().then(x -> x.pass(1)), x -> x.setStart(0, 101), 90);
    }

    private static Object endBehindSetEnd(TimerLedger ledger, int entry, int minute) {
        ledger.setEnd(entry, minute);
        return ledger.endOf(entry);
    }

    private static void promise14Minute() {
        check.sentence("Promise 14, setEnd: `minute`: the new end, from the start of the entry to the present minute");
        check.range("of an ended one", Scenes.allStates(), 20, 100, (x, minute) -> endBehindSetEnd(x, 4, minute), minute -> minute);
        check.range("of one that starts at 0", Scenes.entry(0, 7), 0, 2999, (x, minute) -> endBehindSetEnd(x, 0, minute), minute -> minute);
        check.range("of an empty one", Scenes.entry(2999, 2999), 2999, 2999, (x, minute) -> endBehindSetEnd(x, 0, minute), minute -> minute);
    }

    private static void promise14NoSuchEntry() {
        check.sentence("Promise 14, setEnd: Throws IndexOutOfBoundsException if there is no such entry");
        check.numbers("entry", Scenes::entries, 24, (x, entry) -> x.setEnd(entry, 100), entry -> 2 * entry + 1);
    }

    private static void promise14NotEnded() {
        check.sentence("Promise 14, setEnd: Throws IllegalStateException if it is running, frozen or removed");
        check.refusesState("running", Scenes.allStates(), x -> x.setEnd(0, 100));
        check.refusesState("frozen", Scenes.allStates(), x -> x.setEnd(1, 80));
        check.refusesState("removed", Scenes.allStates(), x -> x.setEnd(2, 80));
        check.refusesState("removed while it ran", Scenes.allStates(), x -> x.setEnd(3, 95));
        check.answers("ended", Scenes.allStates(), x -> x.setEnd(4, 80), 30);
        check.answers("just stopped", Scenes.allStates().then(x -> x.stop(0)), x -> x.setEnd(0, 95), 100);
    }

    private static void promise14OutOfRange() {
        check.sentence("Promise 14, setEnd: Throws IllegalArgumentException if the minute is out of range");
        check.refusesArgument("before the start", Scenes.allStates(), x -> x.setEnd(4, 19));
        check.answers("the start", Scenes.allStates(), x -> x.setEnd(4, 20), 30);
        check.answers("now", Scenes.allStates(), x -> x.setEnd(4, 100), 30);
        check.refusesArgument("behind now", Scenes.allStates(), x -> x.setEnd(4, 101));
        check.refusesArgument("-1", Scenes.entry(0, 7), x -> x.setEnd(0, -1));
    }

    // ---- remove

    private static void promise15Remaining() {
        check.sentence("Promise 15, remove: Returns the number of entries that are not removed afterwards");
        check.answers("of one", Scenes.entries(1), x -> x.remove(0), 0);
        check.answers("of 24", Scenes.entries(24), x -> x.remove(23), 23);
        check.answers("of 24, the last one", Scenes.entries(24).thenTimes(23, (x, entry) -> x.remove(entry)), x -> x.remove(23), 0);
        check.answers("beside a running, a frozen and two removed ones", Scenes.allStates(), x -> x.remove(4), 2);
    }

    private static void promise15NoSuchEntry() {
        check.sentence("Promise 15, remove: Throws IndexOutOfBoundsException if there is no such entry");
        check.numbers("entry", Scenes::entries, 24, BoundariesOfEntriesTest::firstRemoved, entry -> entry);
    }

    private static Object firstRemoved(TimerLedger ledger, int entry) {
        ledger.remove(entry);
        return Snapshot.statesOf(ledger).indexOf('x');
    }

    private static void promise15FrozenOrRemoved() {
        check.sentence("Promise 15, remove: Throws IllegalStateException if it is frozen or removed");
        check.answers("running", Scenes.allStates(), x -> x.remove(0), 2);
        check.refusesState("frozen", Scenes.allStates(), x -> x.remove(1));
        check.refusesState("removed", Scenes.allStates(), x -> x.remove(2));
        check.refusesState("removed while it ran", Scenes.allStates(), x -> x.remove(3));
        check.answers("ended", Scenes.allStates(), x -> x.remove(4), 2);
    }

    // ---- what is asked of entries

    private static void promise16Entries() {
        check.sentence("Promise 16, entries: Returns the number of entries, removed ones included");
        for (int entries : new int[] {0, 1, 23, 24}) {
            check.answers("of " + entries, Scenes.entries(entries), x -> x.entries(), entries);
            check.answers("of " + entries + ", all removed", Scenes.entries(entries).thenTimes(entries, (x, entry) -> x.remove(entry)), x -> x.entries(), entries);
        }
        check.answers("in all states", Scenes.allStates(), x -> x.entries(), 5);
    }

    private static void promise17States() {
        check.sentence("Promise 17, state: Returns 'r' if it is running, 'e' if it is ended, 'f' if it is frozen, 'x' if it is removed");
        check.answers("all states", Scenes.allStates(), x -> Snapshot.statesOf(x), "rfxxe");
        check.answers("just started", Scenes.running(1), x -> x.state(0), 'r');
        check.answers("just stopped", Scenes.running(1).then(x -> x.stop(0)), x -> x.state(0), 'e');
        check.answers("in an invoice", Scenes.entries(1).then(x -> x.invoice(0)), x -> x.state(0), 'f');
        check.answers("just removed", Scenes.running(1).then(x -> x.remove(0)), x -> x.state(0), 'x');
    }

    private static void promise17NoSuchEntry() {
        check.sentence("Promise 17, state: Throws IndexOutOfBoundsException if there is no such entry");
        check.numbers("entry", Scenes::entries, 24, (x, entry) -> x.state(entry), entry -> 'e');
    }

    private static void promise18Removed() {
        check.sentence("Promise 18, startOf: Returns the start of an entry, also of a removed one");
        int[] due = {90, 60, 40, 90, 20};
        for (int i = 0; i < 5; i++) {
            int entry = i;
            check.answers("entry " + entry, Scenes.allStates(), x -> x.startOf(entry), due[entry]);
        }
        check.answers("a minute later", Scenes.allStates().then(x -> x.pass(1)), x -> x.startOf(3), 90);
    }

    private static void promise18NoSuchEntry() {
        check.sentence("Promise 18, startOf: Throws IndexOutOfBoundsException if there is no such entry");
        check.numbers("entry", Scenes::entries, 24, (x, entry) -> x.startOf(entry), entry -> entry);
    }

    private static void promise19RemovedWhileRunning() {
        check.sentence("Promise 19, endOf: The end of an entry that was removed while it was running is the minute in which it was removed");
        int[] due = {101, 70, 50, 95, 30};
        for (int i = 0; i < 5; i++) {
            int entry = i;
            check.answers("entry " + entry + " a minute later", Scenes.allStates().then(x -> x.pass(1)), x -> x.endOf(entry), due[entry]);
        }
        check.answers("removed at once", Scenes.running(1).then(x -> x.remove(0)).then(x -> x.pass(1)), x -> x.endOf(0), 100);
        check.answers("removed a minute later", Scenes.running(1).then(x -> x.pass(1)).then(x -> x.remove(0)).then(x -> x.pass(1)), x -> x.endOf(0), 101);
    }

    private static void promise19NoSuchEntry() {
        check.sentence("Promise 19, endOf: Throws IndexOutOfBoundsException if there is no such entry");
        check.numbers("entry", Scenes::entries, 24, (x, entry) -> x.endOf(entry), entry -> 2 * entry + 1);
    }

    private static void promise20Removed() {
        check.sentence("Promise 20, counted: Returns the number of seconds, 0 if it is removed");
        int[] due = {600, 600, 0, 0, 600};
        for (int i = 0; i < 5; i++) {
            int entry = i;
            check.answers("entry " + entry, Scenes.allStates(), x -> x.counted(entry), due[entry]);
        }
        check.answers("most", Scenes.entry(0, 2999), x -> x.counted(0), 2999 * 60);
    }

    private static void promise20NoSuchEntry() {
        check.sentence("Promise 20, counted: Throws IndexOutOfBoundsException if there is no such entry");
        check.numbers("entry", Scenes::entries, 24, (x, entry) -> x.counted(entry), entry -> 60 * (entry + 1));
    }

    private static void promise21Frozen() {
        check.sentence("Promise 21, countedByMinutes: for a frozen entry, the fixed number");
        Scene two = Scenes.inOneMinute(2, 's').then(x -> x.addClient(1, 'u', 'e', 0)).then(x -> x.addEntry(1, 0, 1)).then(x -> x.invoice(0));
        check.answers("frozen", two.then(x -> x.setRule('f')), x -> x.countedByMinutes(1), 20);
        check.answers("ended", two.then(x -> x.setRule('f')), x -> x.countedByMinutes(2), 60);
        check.answers("frozen, beside one less", two.then(x -> x.remove(2)), x -> x.countedByMinutes(1), 20);
    }

    private static void promise21Removed() {
        check.sentence("Promise 21, countedByMinutes: Returns the number of seconds, 0 if it is removed");
        int[] due = {600, 600, 0, 0, 600};
        for (int i = 0; i < 5; i++) {
            int entry = i;
            check.answers("entry " + entry, Scenes.allStates(), x -> x.countedByMinutes(entry), due[entry]);
        }
        check.answers("most", Scenes.entry(0, 2999), x -> x.countedByMinutes(0), 2999 * 60);
    }

    private static void promise21NoSuchEntry() {
        check.sentence("Promise 21, countedByMinutes: Throws IndexOutOfBoundsException if there is no such entry");
        check.numbers("entry", Scenes::entries, 24, (x, entry) -> x.countedByMinutes(entry), entry -> 60 * (entry + 1));
    }

    // ---- the output line

    private static void writes(String what, Scene scene, int entry, String due) {
        check.answers(what + ": length", scene, x -> x.writeEntry(entry), due.length());
        check.answers(what, scene.then(x -> x.writeEntry(entry)), x -> Snapshot.outputOf(x), due);
    }

    private static void promise22Line() {
        check.sentence("Promise 22, writeEntry: its number, its state as in state, its client, \":\", its start, \"-\", its end, \"=\" and its counted seconds");
        writes("the shortest line", Scenes.entry(0, 0), 0, "0e0:0-0=0");
        writes("the longest line", Scenes.clients(5).thenTimes(18, (x, time) -> x.addEntry(0, 0, 1))
            .then(x -> x.pass(600)).then(x -> x.pass(300)).then(x -> x.start(4))
            .thenTimes(3, (x, time) -> x.pass(600)).then(x -> x.pass(199)), 23, "23r4:1000-2999=119940");
        writes("one digit and two", Scenes.entries(11), 9, "9e0:9-19=600");
        writes("two digits and two", Scenes.entries(11), 10, "10e0:10-21=660");
        writes("running", Scenes.allStates(), 0, "0r0:90-100=600");
        writes("frozen", Scenes.allStates(), 1, "1f0:60-70=600");
        writes("removed", Scenes.allStates(), 2, "2x0:40-50=0");
        writes("removed while it ran", Scenes.allStates(), 3, "3x0:90-95=0");
        writes("the example", Scenes.clients(2).then(x -> x.addEntry(0, 0, 0)).then(x -> x.addEntry(1, 60, 75)), 3, "3e1:60-75=900");
    }

    private static void promise22OldContent() {
        check.sentence("Promise 22, writeEntry: Writes an entry to the output line, which replaces its old content");
        writes("a longer one behind a shorter one", Scenes.entries(11).then(x -> x.writeEntry(9)), 10, "10e0:10-21=660");
        writes("a shorter one behind a longer one", Scenes.entries(11).then(x -> x.writeEntry(10)), 9, "9e0:9-19=600");
        check.answers("the line stays behind later changes", Scenes.entries(1).then(x -> x.writeEntry(0)).then(x -> x.remove(0)), x -> Snapshot.outputOf(x), "0e0:0-1=60");
    }

    private static void promise22NoSuchEntry() {
        check.sentence("Promise 22, writeEntry: Throws IndexOutOfBoundsException if there is no such entry");
        check.numbers("entry", Scenes::entries, 24, (x, entry) -> Snapshot.written(x, entry), entry -> entry + "e0:" + entry + "-" + (2 * entry + 1) + "=" + 60 * (entry + 1));
        check.refusesIndex("with a line already written", Scenes.entries(1).then(x -> x.writeEntry(0)), x -> x.writeEntry(1));
    }

    private static void promise23EmptyLine() {
        check.sentence("Promise 23, charAt: Returns a character of the output line, which is initially empty");
        check.refusesIndex("0 of a new object", TimerLedger::new, x -> x.charAt(0));
        check.refusesIndex("0 with an entry that is not written", Scenes.entries(1), x -> x.charAt(0));
        check.answers("0 with a written entry", Scenes.entries(1).then(x -> x.writeEntry(0)), x -> x.charAt(0), '0');
    }

    private static void promise23CountedFrom0() {
        check.sentence("Promise 23, charAt: `index`: the index, counted from 0");
        Scene written = Scenes.allStates().then(x -> x.writeEntry(4));
        check.answers("the first character", written, x -> x.charAt(0), '4');
        check.answers("the second character", written, x -> x.charAt(1), 'e');
        check.refusesIndex("none before it", written, x -> x.charAt(-1));
    }

    private static void promise23Index() {
        check.sentence("Promise 23, charAt: Throws IndexOutOfBoundsException if the index is negative or not less than the number of characters");
        String line = "23e0:23-47=1440";
        Scene written = Scenes.entries(24).then(x -> x.writeEntry(23));
        for (int i = 0; i < line.length(); i++) {
            int index = i;
            check.answers("index " + index, written, x -> x.charAt(index), line.charAt(index));
        }
        for (int index : new int[] {-1, line.length(), line.length() + 1, Integer.MIN_VALUE, Integer.MAX_VALUE}) {
            check.refusesIndex("index " + index, written, x -> x.charAt(index));
        }
        Scene shorter = written.then(x -> x.writeEntry(0));
        check.answers("the last one of a shorter line", shorter, x -> x.charAt(9), '0');
        check.refusesIndex("behind a shorter line", shorter, x -> x.charAt(10));
    }
}
