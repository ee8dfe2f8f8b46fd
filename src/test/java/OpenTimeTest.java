/** Promises 24 to 28: rounding, open time and the seconds of days. */
public final class OpenTimeTest {
    private static final Check check = new Check();

    public static void main(String[] args) {
        modes();
        nearestInTheMiddle();
        oneSecondMore();
        linesAlone();
        byEntry();
        carried();
        carriedInTheOrderOfStarts();
        byDay();
        dayBorders();
        daysOfAllLevels();
        openOnesOnly();
        check.end();
    }

    private static TimerLedger withClient(int unit, char mode, char level, int minutes) {
        TimerLedger ledger = new TimerLedger();
        ledger.addClient(unit, mode, level, 6000);
        for (int left = minutes; left > 0; left -= 600) {
            ledger.pass(Math.min(left, 600));
        }
        return ledger;
    }

    private static void open(String what, TimerLedger ledger, int client, int due) {
        check.same(what + ": openMinutes", ledger.openMinutes(client), due);
        check.same(what + ": openMinutesByLines", ledger.openMinutesByLines(client), due);
    }

    private static void day(String what, TimerLedger ledger, int client, int day, int due) {
        check.same(what + ": daySeconds " + day, ledger.daySeconds(client, day), due);
        check.same(what + ": daySecondsByMinutes " + day, ledger.daySecondsByMinutes(client, day), due);
    }

    private static void modes() {
        TimerLedger ledger = withClient(10, 'u', 'e', 100);
        ledger.addEntry(0, 0, 20);
        ledger.addEntry(0, 0, 21);
        ledger.addEntry(0, 0, 29);
        ledger.addEntry(0, 5, 5);
        int[] up = {20, 30, 30, 0};
        int[] down = {20, 20, 20, 0};
        int[] nearest = {20, 20, 30, 0};
        for (int entry = 0; entry < 4; entry++) {
            ledger.setRounding(0, 10, 'u', 'e');
            check.same("up " + entry, ledger.rounded(entry), up[entry]);
            ledger.setRounding(0, 10, 'd', 'e');
            check.same("down " + entry, ledger.rounded(entry), down[entry]);
            ledger.setRounding(0, 10, 'n', 'e');
            check.same("nearest " + entry, ledger.rounded(entry), nearest[entry]);
        }
    }

    private static void nearestInTheMiddle() {
        TimerLedger ledger = withClient(10, 'n', 'e', 100);
        ledger.addEntry(0, 0, 25);
        check.same("the middle goes up", ledger.rounded(0), 30);
        ledger.setEnd(0, 24);
        check.same("below the middle", ledger.rounded(0), 20);
        ledger.setRounding(0, 5, 'n', 'e');
        ledger.setEnd(0, 22);
        check.same("unit 5, below the middle", ledger.rounded(0), 20);
        ledger.setEnd(0, 23);
        check.same("unit 5, above the middle", ledger.rounded(0), 25);
        ledger.setRounding(0, 1, 'n', 'e');
        ledger.setRule('s');
        ledger.setEnd(0, 1);
        ledger.addEntry(0, 0, 1);
        check.same("30 seconds go up", ledger.rounded(0), 1);
        ledger.addEntry(0, 0, 1);
        check.same("20 seconds go down", ledger.rounded(0), 0);
    }

    private static void oneSecondMore() {
        TimerLedger ledger = withClient(1, 'u', 'e', 100);
        for (int entry = 0; entry < 8; entry++) {
            ledger.addEntry(0, 0, 43);
        }
        ledger.setRule('s');
        check.same("43 times 7 seconds", ledger.counted(7), 301);
        check.same("one second more goes up", ledger.rounded(7), 6);
        ledger.setRounding(0, 1, 'd', 'e');
        check.same("one second more goes down", ledger.rounded(7), 5);
        ledger.setRounding(0, 1, 'n', 'e');
        check.same("one second more, to the nearest", ledger.rounded(7), 5);
        check.same("44 seconds more, to the nearest", ledger.rounded(0), 6);
    }

    private static void linesAlone() {
        TimerLedger ledger = withClient(10, 'u', 'c', 100);
        ledger.addClient(1, 'u', 'e', 0);
        ledger.addEntry(0, 0, 5);
        check.same("lines asked first", ledger.openMinutesByLines(0), 10);
        check.same("then another client's", ledger.openMinutesByLines(1), 0);
        ledger.addEntry(1, 0, 5);
        check.same("after a change", ledger.openMinutesByLines(1), 5);
    }

    private static void byEntry() {
        TimerLedger ledger = withClient(15, 'u', 'e', 100);
        ledger.addClient(15, 'u', 'e', 6000);
        ledger.addEntry(0, 0, 16);
        ledger.addEntry(1, 0, 50);
        ledger.addEntry(0, 20, 21);
        open("each one is rounded", ledger, 0, 30 + 15);
        open("the other client", ledger, 1, 60);
        ledger.setRounding(0, 15, 'd', 'e');
        open("each one down", ledger, 0, 15);
    }

    private static void carried() {
        TimerLedger ledger = withClient(10, 'u', 'c', 100);
        ledger.addEntry(0, 0, 4);
        ledger.addEntry(0, 10, 14);
        ledger.addEntry(0, 20, 24);
        ledger.addEntry(0, 30, 34);
        int[] due = {10, 0, 10, 0};
        for (int entry = 0; entry < 4; entry++) {
            check.same("carried " + entry, ledger.rounded(entry), due[entry]);
        }
        open("carried", ledger, 0, 20);
        ledger.setRounding(0, 10, 'd', 'c');
        open("carried down", ledger, 0, 10);
        check.same("carried down 2", ledger.rounded(2), 10);
        ledger.setRounding(0, 10, 'n', 'c');
        check.same("carried nearest 0", ledger.rounded(0), 0);
        check.same("carried nearest 1", ledger.rounded(1), 10);
        open("carried nearest", ledger, 0, 20);
    }

    private static void carriedInTheOrderOfStarts() {
        TimerLedger ledger = withClient(10, 'd', 'c', 100);
        ledger.addEntry(0, 50, 58);
        ledger.addEntry(0, 20, 28);
        ledger.addEntry(0, 20, 21);
        ledger.addEntry(0, 0, 1);
        int[] due = {0, 0, 10, 0};
        for (int entry = 0; entry < 4; entry++) {
            check.same("in the order of starts " + entry, ledger.rounded(entry), due[entry]);
        }
        ledger.setStart(3, 1);
        ledger.setStart(0, 51);
        check.same("the last one", ledger.rounded(0), 10);
        check.same("of the same start, the second", ledger.rounded(2), 0);
    }

    private static void byDay() {
        TimerLedger ledger = withClient(15, 'u', 'd', 1300);
        ledger.addEntry(0, 590, 610);
        ledger.addEntry(0, 1200, 1201);
        ledger.addEntry(0, 0, 10);
        open("by day", ledger, 0, 30 + 15 + 15);
        ledger.setRounding(0, 15, 'd', 'd');
        open("by day down", ledger, 0, 15);
    }

    private static void dayBorders() {
        TimerLedger ledger = withClient(15, 'u', 'd', 2999);
        ledger.addEntry(0, 599, 1201);
        day("border", ledger, 0, 0, 60);
        day("border", ledger, 0, 1, 36000);
        day("border", ledger, 0, 2, 60);
        day("border", ledger, 0, 3, 0);
        ledger.addEntry(0, 2400, 2999);
        day("last day", ledger, 0, 4, 599 * 60);
        ledger.setRule('l');
        ledger.addEntry(0, 600, 601);
        ledger.addClient(1, 'u', 'e', 0);
        ledger.addEntry(1, 1000, 1300);
        day("latest", ledger, 0, 1, 400 * 60);
        day("latest", ledger, 0, 2, 0);
        day("latest", ledger, 1, 1, 200 * 60);
        day("latest", ledger, 1, 2, 100 * 60);
    }

    private static void daysOfAllLevels() {
        TimerLedger ledger = withClient(60, 'd', 'e', 700);
        ledger.addEntry(0, 550, 650);
        for (char level : new char[] {'e', 'd', 'c'}) {
            ledger.setRounding(0, 60, 'd', level);
            day("level " + level, ledger, 0, 0, 3000);
            day("level " + level, ledger, 0, 1, 3000);
        }
    }

    private static void openOnesOnly() {
        TimerLedger ledger = withClient(10, 'u', 'e', 100);
        ledger.addEntry(0, 0, 5);
        ledger.invoice(0);
        open("nothing open", ledger, 0, 0);
        day("frozen ones do not count", ledger, 0, 0, 0);
        ledger.start(0);
        ledger.pass(11);
        open("running ones are open", ledger, 0, 20);
        day("running ones count", ledger, 0, 0, 660);
        check.same("rounded of a running one", ledger.rounded(1), 20);
        ledger.setRounding(0, 10, 'u', 'c');
        check.same("frozen ones carry nothing", ledger.rounded(1), 20);
        ledger.remove(1);
        open("removed ones are not open", ledger, 0, 0);
        day("removed ones do not count", ledger, 0, 0, 0);
    }
}
