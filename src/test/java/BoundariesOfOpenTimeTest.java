/** The boundaries that the promises 24 to 28 name: rounded minutes, the seconds of days and open minutes. */
public final class BoundariesOfOpenTimeTest {
    private static final Check check = new Check();

    public static void main(String[] args) {
        promise24NoSuchEntry();
        promise24FrozenOrRemoved();
        promise24ByDay();
        promise25Day();
        promise25NoSuchClient();
        promise25OutOfRange();
        promise25Level();
        promise26Day();
        promise26NoSuchClient();
        promise26OutOfRange();
        promise26Level();
        promise27NoSuchClient();
        promise27Carried();
        promise28NoSuchClient();
        promise28SameNumber();
        check.end();
    }

    private static Scene level(char level) {
        return Scenes.allStates().then(x -> x.setRounding(0, 25, 'u', level));
    }

    private static void promise24NoSuchEntry() {
        check.sentence("Promise 24, rounded: Throws IndexOutOfBoundsException if there is no such entry");
        check.numbers("entry", Scenes::entries, 24, (x, entry) -> x.rounded(entry), entry -> entry + 1);
    }

    private static void promise24FrozenOrRemoved() {
        check.sentence("Promise 24, rounded: Throws IllegalStateException if it is frozen or removed");
        for (char level : new char[] {'e', 'c'}) {
            check.answers("running, by " + level, level(level), x -> x.rounded(0), level == 'e' ? 25 : 0);
            check.refusesState("frozen, by " + level, level(level), x -> x.rounded(1));
            check.refusesState("removed, by " + level, level(level), x -> x.rounded(2));
            check.refusesState("removed while it ran, by " + level, level(level), x -> x.rounded(3));
            check.answers("ended, by " + level, level(level), x -> x.rounded(4), 25);
        }
    }

    private static void promise24ByDay() {
        check.sentence("Promise 24, rounded: Throws UnsupportedOperationException if the level of its client is 'd'");
        check.refuses("running", level('d'), UnsupportedOperationException.class, x -> x.rounded(0));
        check.refuses("ended", level('d'), UnsupportedOperationException.class, x -> x.rounded(4));
        check.answers("by entry again", level('d').then(x -> x.setRounding(0, 15, 'u', 'e')), x -> x.rounded(4), 15);
        check.answers("another client's level", Scenes.clients(2).then(x -> x.setRounding(1, 1, 'u', 'd')), x -> x.rounded(0), 5);
        check.refuses("this client's level", Scenes.clients(2).then(x -> x.setRounding(1, 1, 'u', 'd')), UnsupportedOperationException.class, x -> x.rounded(1));
    }

    /** An entry of all minutes, and one that runs over the border of the last day. */
    private static Scene longEntries() {
        return Scenes.entry(0, 2999).then(x -> x.addEntry(0, 2399, 2401));
    }

    private static final int[] SECONDS_OF_DAYS = {36000, 36000, 36000, 36060, 599 * 60 + 60};

    private static void promise25Day() {
        check.sentence("Promise 25, daySeconds: `day`: the day, 0 to 4");
        check.range("day", longEntries(), 0, 4, (x, day) -> x.daySeconds(0, day), day -> SECONDS_OF_DAYS[day]);
        for (int i = 0; i < 5; i++) {
            int day = i;
            check.answers("day " + day, longEntries(), x -> x.daySeconds(0, day), SECONDS_OF_DAYS[day]);
            check.answers("day " + day + " at minute 0", Scenes.client(0), x -> x.daySeconds(0, day), 0);
        }
    }

    private static void promise25NoSuchClient() {
        check.sentence("Promise 25, daySeconds: Throws IndexOutOfBoundsException if there is no such client");
        check.numbers("client", Scenes::clients, 5, (x, client) -> x.daySeconds(client, 0), client -> 300 * (client + 1));
    }

    private static void promise25OutOfRange() {
        check.sentence("Promise 25, daySeconds: Throws IllegalArgumentException if the day is out of range");
        check.refusesArgument("-1", Scenes.clients(1), x -> x.daySeconds(0, -1));
        check.answers("0", Scenes.clients(1), x -> x.daySeconds(0, 0), 300);
        check.answers("4, which is to come", Scenes.clients(1), x -> x.daySeconds(0, 4), 0);
        check.refusesArgument("5", Scenes.clients(1), x -> x.daySeconds(0, 5));
    }

    private static void promise25Level() {
        check.sentence("Promise 25, daySeconds: Returns the counted seconds of all open entries of a client in a day, whatever its level is");
        for (char level : new char[] {'e', 'c', 'd'}) {
            check.answers("a running and an ended one by " + level, level(level), x -> x.daySeconds(0, 0), 600 + 600);
            check.answers("all in an invoice by " + level, level(level).then(x -> x.stop(0)).then(x -> x.invoice(0)), x -> x.daySeconds(0, 0), 0);
        }
    }

    private static void promise26Day() {
        check.sentence("Promise 26, daySecondsByMinutes: `day`: the day, 0 to 4");
        check.range("day", longEntries(), 0, 4, (x, day) -> x.daySecondsByMinutes(0, day), day -> SECONDS_OF_DAYS[day]);
        for (int i = 0; i < 5; i++) {
            int day = i;
            check.answers("day " + day, longEntries(), x -> x.daySecondsByMinutes(0, day), SECONDS_OF_DAYS[day]);
            check.answers("day " + day + " at minute 0", Scenes.client(0), x -> x.daySecondsByMinutes(0, day), 0);
        }
    }

    private static void promise26NoSuchClient() {
        check.sentence("Promise 26, daySecondsByMinutes: Throws IndexOutOfBoundsException if there is no such client");
        check.numbers("client", Scenes::clients, 5, (x, client) -> x.daySecondsByMinutes(client, 0), client -> 300 * (client + 1));
    }

    private static void promise26OutOfRange() {
        check.sentence("Promise 26, daySecondsByMinutes: Throws IllegalArgumentException if the day is out of range");
        check.refusesArgument("-1", Scenes.clients(1), x -> x.daySecondsByMinutes(0, -1));
        check.answers("0", Scenes.clients(1), x -> x.daySecondsByMinutes(0, 0), 300);
        check.answers("4, which is to come", Scenes.clients(1), x -> x.daySecondsByMinutes(0, 4), 0);
        check.refusesArgument("5", Scenes.clients(1), x -> x.daySecondsByMinutes(0, 5));
    }

    private static void promise26Level() {
        check.sentence("Promise 26, daySecondsByMinutes: Returns the same number, computed minute by minute");
        for (char level : new char[] {'e', 'c', 'd'}) {
            check.answers("a running and an ended one by " + level, level(level), x -> x.daySecondsByMinutes(0, 0), 600 + 600);
            check.answers("all in an invoice by " + level, level(level).then(x -> x.stop(0)).then(x -> x.invoice(0)), x -> x.daySecondsByMinutes(0, 0), 0);
        }
    }

    private static void promise27NoSuchClient() {
        check.sentence("Promise 27, openMinutes: Throws IndexOutOfBoundsException if there is no such client");
        check.numbers("client", Scenes::clients, 5, (x, client) -> x.openMinutes(client), client -> 5 * (client + 1));
    }

    private static void promise27Carried() {
        check.sentence("Promise 27, openMinutes: By the level 'c', they are computed by rounding the sum of the counted seconds of all open entries");
        Scene none = Scenes.client(15, 'n', 'c', 0, 100);
        check.answers("no open entries", none, x -> x.openMinutes(0), 0);
        check.answers("a sum below the middle", none.thenTimes(7, (x, time) -> x.addEntry(0, time, time + 1)), x -> x.openMinutes(0), 0);
        check.answers("a sum behind the middle", none.thenTimes(8, (x, time) -> x.addEntry(0, time, time + 1)), x -> x.openMinutes(0), 15);
    }

    private static void promise28NoSuchClient() {
        check.sentence("Promise 28, openMinutesByLines: Throws IndexOutOfBoundsException if there is no such client");
        check.numbers("client", Scenes::clients, 5, (x, client) -> x.openMinutesByLines(client), client -> 5 * (client + 1));
    }

    private static void promise28SameNumber() {
        check.sentence("Promise 28, openMinutesByLines: Returns the same number, by adding up the rounded minutes of entries or days");
        char[] levels = {'e', 'd', 'c'};
        int[] dues = {60, 45, 30};
        for (int i = 0; i < 3; i++) {
            Scene none = Scenes.client(15, 'n', levels[i], 0, 700);
            // Three entries of 8 minutes in one day, and one in the next.
            Scene four = none.thenTimes(3, (x, time) -> x.addEntry(0, 100 * time, 100 * time + 8)).then(x -> x.addEntry(0, 600, 608));
            check.answers("no entries by " + levels[i], none, x -> x.openMinutesByLines(0), 0);
            check.answers("four entries by " + levels[i], four, x -> x.openMinutesByLines(0), dues[i]);
            check.answers("four entries by " + levels[i] + ": openMinutes", four, x -> x.openMinutes(0), dues[i]);
        }
    }
}
