/** The boundaries that the terms name: rounding and open time. */
public final class BoundariesOfOpenTimeTermsTest {
    private static final Check check = new Check();

    public static void main(String[] args) {
        exactQuotient();
        nearest();
        nearestInTheMiddle();
        fewestSeconds();
        openEntries();
        orderOfOpenEntries();
        byEntry();
        carriedRemainders();
        byDay();
        check.end();
    }

    /** So many seconds are rounded by each level: one entry of one day, with nothing before it. */
    private static void rounds(int unit, char mode, int seconds, int due) {
        String what = seconds + " seconds by the unit " + unit + " and the mode " + mode;
        check.answers(what + ": counted", Scenes.seconds(unit, mode, 'e', seconds), x -> x.counted(7), seconds);
        check.answers(what + ", by entry", Scenes.seconds(unit, mode, 'e', seconds), x -> x.rounded(7), due);
        check.answers(what + ", carried", Scenes.seconds(unit, mode, 'c', seconds), x -> x.rounded(7), due);
        check.answers(what + ", by day", Scenes.seconds(unit, mode, 'd', seconds), x -> x.openMinutes(0), due);
    }

    /** Units with a whole quotient for which the seconds can be made and fit in one day. */
    private static final int[][] UNITS_AND_QUOTIENTS = {{1, 8}, {2, 8}, {7, 8}, {59, 2}, {60, 2}};

    private static void exactQuotient() {
        check.sentence("Terms, rounding: it gives an exact quotient, which is rounded up, down .. as the mode says, and multiplied by the unit");
        for (int[] row : UNITS_AND_QUOTIENTS) {
            int unit = row[0];
            int whole = row[1] * unit;
            rounds(unit, 'u', 60 * whole - 1, whole);
            rounds(unit, 'u', 60 * whole, whole);
            rounds(unit, 'u', 60 * whole + 1, whole + unit);
            rounds(unit, 'd', 60 * whole - 1, whole - unit);
            rounds(unit, 'd', 60 * whole, whole);
            rounds(unit, 'd', 60 * whole + 1, whole);
        }
    }

    private static void nearest() {
        check.sentence("Terms, rounding: or to the nearest whole number");
        for (int[] row : UNITS_AND_QUOTIENTS) {
            int unit = row[0];
            int whole = row[1] * unit;
            rounds(unit, 'n', 60 * whole - 1, whole);
            rounds(unit, 'n', 60 * whole, whole);
            rounds(unit, 'n', 60 * whole + 1, whole);
        }
    }

    private static void nearestInTheMiddle() {
        check.sentence("Terms, rounding: (the greater one, if it lies in the middle)");
        for (int[] row : UNITS_AND_QUOTIENTS) {
            int unit = row[0];
            int whole = row[1] * unit;
            rounds(unit, 'n', 60 * whole + 30 * unit - 1, whole);
            rounds(unit, 'n', 60 * whole + 30 * unit, whole + unit);
            rounds(unit, 'n', 60 * whole + 30 * unit + 1, whole + unit);
        }
    }

    private static void fewestSeconds() {
        check.sentence("Terms, rounding: A number of seconds is rounded to minutes (none, the fewest, and the most there can be)");
        for (int unit : new int[] {1, 2, 59, 60}) {
            for (char mode : new char[] {'u', 'd', 'n'}) {
                for (char level : new char[] {'e', 'c', 'd'}) {
                    String what = " by " + unit + mode + level;
                    check.answers("nothing" + what, withEntry(unit, mode, level, 0, 0), x -> x.openMinutes(0), 0);
                    int due = mode == 'u' || mode == 'n' && unit <= 2 || unit == 1 ? unit : 0;
                    check.answers("a minute" + what, withEntry(unit, mode, level, 0, 1), x -> x.openMinutes(0), due);
                }
            }
        }
        // By the rule 's', 24 entries leave 2 seconds of a minute to the last of them.
        check.answers("2 seconds up", Scenes.inOneMinute(24, 's'), x -> x.rounded(23), 1);
        check.answers("2 seconds down", Scenes.inOneMinute(24, 's').then(x -> x.setRounding(0, 1, 'd', 'e')), x -> x.rounded(23), 0);
        check.answers("2 seconds to the nearest", Scenes.inOneMinute(24, 's').then(x -> x.setRounding(0, 1, 'n', 'e')), x -> x.rounded(23), 0);
        for (char level : new char[] {'e', 'c', 'd'}) {
            Scene most = Scenes.client(1, 'n', level, 50000, 2999).thenTimes(24, (x, entry) -> x.addEntry(0, 0, 2999));
            check.answers("24 entries of 2999 minutes by " + level, most, x -> x.openMinutes(0), 24 * 2999);
        }
    }

    private static Scene withEntry(int unit, char mode, char level, int start, int end) {
        return Scenes.client(unit, mode, level, 6000, 2999).then(x -> x.addEntry(0, start, end));
    }

    private static void openEntries() {
        check.sentence("Terms, open time: The open entries of a client are its running and ended entries");
        for (char level : new char[] {'e', 'c', 'd'}) {
            Scene none = Scenes.client(60, 'u', level, 6000, 100);
            Scene ended = none.then(x -> x.addEntry(0, 0, 1));
            opens("none by " + level, none, 0);
            opens("an ended one by " + level, ended, 60);
            opens("a frozen one by " + level, ended.then(x -> x.invoice(0)), 0);
            opens("a removed one by " + level, ended.then(x -> x.remove(0)), 0);
            opens("a running one by " + level, none.then(x -> x.start(0)).then(x -> x.pass(1)), 60);
            opens("one that just started by " + level, none.then(x -> x.start(0)), 0);
        }
        check.answers("another client's", Scenes.clients(2).then(x -> x.remove(0)), x -> x.openMinutes(0), 0);
    }

    private static void opens(String what, Scene scene, int due) {
        check.answers(what + ": openMinutes", scene, x -> x.openMinutes(0), due);
        check.answers(what + ": openMinutesByLines", scene, x -> x.openMinutesByLines(0), due);
    }

    /** Two entries of 8 minutes, rounded down to tens with carried remainders: 10 minutes are the later one's. */
    private static Scene carrying(int firstStart, int secondStart) {
        return Scenes.client(10, 'd', 'c', 6000, 100)
            .then(x -> x.addEntry(0, firstStart, firstStart + 8))
            .then(x -> x.addEntry(0, secondStart, secondStart + 8));
    }

    private static void orderOfOpenEntries() {
        check.sentence("Terms, open time: in the order of their starts, and of those with the same start in the order of their numbers");
        for (int start = 19; start <= 21; start++) {
            String what = "starts " + start + " and 20";
            boolean firstIsLater = start > 20;
            check.answers(what + ": entry 0", carrying(start, 20), x -> x.rounded(0), firstIsLater ? 10 : 0);
            check.answers(what + ": entry 1", carrying(start, 20), x -> x.rounded(1), firstIsLater ? 0 : 10);
            check.answers(what + ": invoice", carrying(start, 20), x -> Snapshot.linesOf(x, x.invoice(0)), firstIsLater ? "e1:0 e0:10" : "e0:0 e1:10");
        }
        check.answers("both start at 0", carrying(0, 0), x -> x.rounded(1), 10);
    }

    private static void byEntry() {
        check.sentence("Terms, open time: By the level 'e', the counted seconds of each open entry are rounded");
        opens("one entry", withEntry(10, 'u', 'e', 0, 11), 20);
        opens("two entries", withEntry(10, 'u', 'e', 0, 11).then(x -> x.addEntry(0, 20, 31)), 40);
        opens("one entry over the border of a day", withEntry(10, 'u', 'e', 599, 610), 20);
        opens("24 entries", Scenes.entries(24), 24 * 25 / 2);
    }

    private static void carriedRemainders() {
        check.sentence("Terms, open time: the rounded sum of the counted seconds of all open entries up to this one, itself included, minus the rounded sum of those before it");
        Scene one = withEntry(10, 'n', 'c', 0, 5);
        check.answers("none before it", one, x -> x.rounded(0), 10);
        check.answers("one before it", one, x -> x.rounded(x.addEntry(0, 5, 10)), 0);
        check.answers("an empty one", one, x -> x.rounded(x.addEntry(0, 5, 5)), 0);
        check.answers("a removed one before it", one.then(x -> x.remove(0)), x -> x.rounded(x.addEntry(0, 5, 10)), 10);
        check.answers("a frozen one before it", one.then(x -> x.invoice(0)), x -> x.rounded(x.addEntry(0, 5, 10)), 10);
        Scene running = Scenes.client(10, 'n', 'c', 6000, 100).then(x -> x.start(0)).then(x -> x.pass(5));
        check.answers("a running one before it", running, x -> x.rounded(x.addEntry(0, 100, 105)), 0);
        check.answers("itself running", running, x -> x.rounded(0), 10);
        opens("24 entries", Scenes.client(60, 'u', 'c', 6000, 100).thenTimes(24, (x, entry) -> x.addEntry(0, entry, entry + 1)), 60);
    }

    private static void byDay() {
        check.sentence("Terms, open time: By the level 'd', the counted seconds of all open entries in each day are added and rounded");
        opens("up to the border", withEntry(60, 'u', 'd', 598, 600), 60);
        opens("over the border", withEntry(60, 'u', 'd', 599, 601), 120);
        opens("from the border on", withEntry(60, 'u', 'd', 600, 602), 60);
        opens("in all days", withEntry(60, 'u', 'd', 599, 2401), 60 + 3 * 600 + 60);
        opens("to the last minute", withEntry(60, 'u', 'd', 2399, 2999), 60 + 600);
        opens("two entries of a day", withEntry(60, 'u', 'd', 598, 600).then(x -> x.addEntry(0, 0, 1)), 60);
        opens("two entries of two days", withEntry(60, 'u', 'd', 598, 600).then(x -> x.addEntry(0, 600, 601)), 120);
    }
}
