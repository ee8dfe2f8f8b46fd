import java.util.ArrayList;
import java.util.Arrays;

/**
 * A time tracker: timers may run at the same time, a rule divides the time of overlaps, time is
 * rounded for each client, invoices freeze entries, corrections follow them, budgets are watched.
 */
public final class TimerLedger {
    private static final int LAST_MINUTE = 2999;
    private static final int LONGEST_PASS = 600;
    private static final int DAYS = 5;
    private static final int DAY_MINUTES = 600;
    private static final int MINUTE_SECONDS = 60;
    private static final int MOST_CLIENTS = 5;
    private static final int MOST_ENTRIES = 24;
    private static final int MOST_RUNNING = 4;
    private static final int MOST_INVOICES = 8;
    private static final int MOST_CORRECTIONS = 16;
    private static final int LARGEST_UNIT = 60;
    private static final int LARGEST_RATE = 50000;
    private static final int LARGEST_BUDGET = 9999;
    private static final int LARGEST_CORRECTION = 600;

    private static final char FULL = 'f';
    private static final char LATEST = 'l';
    private static final char SHARED = 's';

    private static final char UP = 'u';
    private static final char DOWN = 'd';
    private static final char NEAREST = 'n';

    private static final char BY_ENTRY = 'e';
    private static final char BY_DAY = 'd';
    private static final char CARRIED = 'c';

    private static final char RUNNING = 'r';
    private static final char ENDED = 'e';
    private static final char FROZEN = 'f';
    private static final char REMOVED = 'x';

    private static final char ENTRY_LINE = 'e';
    private static final char DAY_LINE = 'd';
    private static final char CORRECTION_LINE = 'c';

    private final Timesheet sheet;
    private final Tally tally;
    private final Tally minuteTally;
    private final OpenTime openTime;
    private final ArrayList<Client> clientList;
    private final ArrayList<Invoice> invoiceList;
    private final ArrayList<Correction> correctionList;
    private final StringBuilder output;

    public TimerLedger() {
        sheet = new Timesheet();
        tally = new Tally(sheet);
        minuteTally = new Tally(sheet);
        openTime = new OpenTime(sheet, tally);
        clientList = new ArrayList<Client>();
        invoiceList = new ArrayList<Invoice>();
        correctionList = new ArrayList<Correction>();
        output = new StringBuilder();
    }

    // ---- time and clients

    public int now() {
        return sheet.now;
    }

    public int pass(int minutes) throws IllegalArgumentException, IllegalStateException {
        if (minutes < 1 || minutes > LONGEST_PASS) {
            throw new IllegalArgumentException("1 to 600 minutes pass");
        }
        if (sheet.now + minutes > LAST_MINUTE) {
            throw new IllegalStateException("the last minute is 2999");
        }
        sheet.moveTo(sheet.now + minutes);
        return sheet.now;
    }

    public char setRule(char rule) throws IllegalArgumentException {
        if (rule != FULL && rule != LATEST && rule != SHARED) {
            throw new IllegalArgumentException("no such rule");
        }
        char previous = sheet.rule;
        sheet.rule = rule;
        return previous;
    }

    public int addClient(int unit, char mode, char level, int rate) throws IllegalArgumentException, IllegalStateException {
        requireRounding(unit, mode, level);
        requireRate(rate);
        if (clientList.size() >= MOST_CLIENTS) {
            throw new IllegalStateException("there are 5 clients");
        }
        int number = clientList.size();
        clientList.add(new Client(number, unit, mode, level, rate));
        return number;
    }

    public int clients() {
        return clientList.size();
    }

    public int setRounding(int client, int unit, char mode, char level) throws IndexOutOfBoundsException, IllegalArgumentException {
        Client changed = clientAt(client);
        requireRounding(unit, mode, level);
        int previous = changed.unit;
        changed.unit = unit;
        changed.mode = mode;
        changed.level = level;
        return previous;
    }

    public int setRate(int client, int rate) throws IndexOutOfBoundsException, IllegalArgumentException {
        Client changed = clientAt(client);
        requireRate(rate);
        int previous = changed.rate;
        changed.rate = rate;
        return previous;
    }

    public int setBudget(int client, int minutes) throws IndexOutOfBoundsException, IllegalArgumentException {
        Client changed = clientAt(client);
        if (minutes < 0 || minutes > LARGEST_BUDGET) {
            throw new IllegalArgumentException("a budget is 0 to 9999 minutes");
        }
        int previous = changed.budget;
        changed.budget = minutes;
        return previous;
    }

    // ---- entries

    public int start(int client) throws IndexOutOfBoundsException, IllegalStateException {
        Client owner = clientAt(client);
        requireRoomForEntry();
        if (sheet.runningEntries() >= MOST_RUNNING) {
            throw new IllegalStateException("4 entries are running");
        }
        return sheet.append(owner, sheet.now, sheet.now, RUNNING);
    }

    public int stop(int entry) throws IndexOutOfBoundsException, IllegalStateException {
        Entry stopped = entryAt(entry);
        if (stopped.state != RUNNING) {
            throw new IllegalStateException("the entry is not running");
        }
        stopped.state = ENDED;
        return stopped.end - stopped.start;
    }

    public int addEntry(int client, int start, int end) throws IndexOutOfBoundsException, IllegalArgumentException, IllegalStateException {
        Client owner = clientAt(client);
        if (start < 0 || end < start || end > sheet.now) {
            throw new IllegalArgumentException("a minute is out of range");
        }
        requireRoomForEntry();
        return sheet.append(owner, start, end, ENDED);
    }

    public int setStart(int entry, int minute) throws IndexOutOfBoundsException, IllegalStateException, IllegalArgumentException {
        Entry edited = entryAt(entry);
        requireOpen(edited);
        if (minute < 0 || minute > edited.end) {
            throw new IllegalArgumentException("a start is 0 to the end of the entry");
        }
        int previous = edited.start;
        edited.start = minute;
        return previous;
    }

    public int setEnd(int entry, int minute) throws IndexOutOfBoundsException, IllegalStateException, IllegalArgumentException {
        Entry edited = entryAt(entry);
        if (edited.state != ENDED) {
            throw new IllegalStateException("the entry is not ended");
        }
        if (minute < edited.start || minute > sheet.now) {
            throw new IllegalArgumentException("an end is the start of the entry to the present minute");
        }
        int previous = edited.end;
        edited.end = minute;
        return previous;
    }

    public int remove(int entry) throws IndexOutOfBoundsException, IllegalStateException {
        Entry removed = entryAt(entry);
        requireOpen(removed);
        removed.state = REMOVED;
        return sheet.keptEntries();
    }

    public int entries() {
        return sheet.entries.size();
    }

    public char state(int entry) throws IndexOutOfBoundsException {
        return entryAt(entry).state;
    }

    public int startOf(int entry) throws IndexOutOfBoundsException {
        return entryAt(entry).start;
    }

    public int endOf(int entry) throws IndexOutOfBoundsException {
        return entryAt(entry).end;
    }

    public int counted(int entry) throws IndexOutOfBoundsException {
        Entry asked = entryAt(entry);
        tally.countByIntervals(asked.start, asked.end);
        return tally.secondsOf(asked);
    }

    public int countedByMinutes(int entry) throws IndexOutOfBoundsException {
        Entry asked = entryAt(entry);
        minuteTally.countByMinutes(asked.start, asked.end);
        return minuteTally.secondsOf(asked);
    }

    public int writeEntry(int entry) throws IndexOutOfBoundsException {
        Entry written = entryAt(entry);
        tally.countByIntervals(written.start, written.end);
        output.setLength(0);
        output.append(written.number).append(written.state).append(written.owner.number);
        output.append(':').append(written.start);
        output.append('-').append(written.end);
        output.append('=').append(tally.secondsOf(written));
        return output.length();
    }

    public char charAt(int index) throws IndexOutOfBoundsException {
        if (index < 0 || index >= output.length()) {
            throw new IndexOutOfBoundsException("no such character");
        }
        return output.charAt(index);
    }

    // ---- open time

    public int rounded(int entry) throws IndexOutOfBoundsException, IllegalStateException, UnsupportedOperationException {
        Entry asked = entryAt(entry);
        requireOpen(asked);
        if (asked.owner.level == BY_DAY) {
            throw new UnsupportedOperationException("the client's time is rounded by day");
        }
        openTime.pick(asked.owner, true);
        return openTime.minutesAt(openTime.placeOf(asked));
    }

    public int daySeconds(int client, int day) throws IndexOutOfBoundsException, IllegalArgumentException {
        Client owner = clientAt(client);
        requireDay(day);
        tally.countByIntervals(dayStart(day), dayEnd(day));
        return tally.openSecondsInDay(owner, day);
    }

    public int daySecondsByMinutes(int client, int day) throws IndexOutOfBoundsException, IllegalArgumentException {
        Client owner = clientAt(client);
        requireDay(day);
        minuteTally.countByMinutes(dayStart(day), dayEnd(day));
        return minuteTally.openSecondsInDay(owner, day);
    }

    public int openMinutes(int client) throws IndexOutOfBoundsException {
        Client owner = clientAt(client);
        openTime.pick(owner, true);
        return openTime.minutesFor(owner);
    }

    public int openMinutesByLines(int client) throws IndexOutOfBoundsException {
        Client owner = clientAt(client);
        openTime.pick(owner, true);
        return openTime.minutesByLines(owner);
    }

    // ---- invoices, corrections and budgets

    public int invoice(int client) throws IndexOutOfBoundsException, IllegalStateException {
        Client owner = clientAt(client);
        if (invoiceList.size() >= MOST_INVOICES) {
            throw new IllegalStateException("there are 8 invoices");
        }
        openTime.pick(owner, false);
        if (openTime.picked.isEmpty() && !hasWaitingCorrection(owner)) {
            throw new IllegalStateException("there is nothing to invoice");
        }
        Invoice made = new Invoice(owner);
        if (owner.level == BY_DAY) {
            addDayLines(made);
        } else {
            addEntryLines(made);
        }
        addCorrectionLines(made);
        openTime.freezePicked();
        invoiceList.add(made);
        return invoiceList.size() - 1;
    }

    public int invoices() {
        return invoiceList.size();
    }

    public int lines(int invoice) throws IndexOutOfBoundsException {
        return invoiceAt(invoice).lines.size();
    }

    public char lineKind(int invoice, int line) throws IndexOutOfBoundsException {
        return lineAt(invoice, line).kind;
    }

    public int lineMinutes(int invoice, int line) throws IndexOutOfBoundsException {
        return lineAt(invoice, line).minutes;
    }

    public int lineSubject(int invoice, int line) throws IndexOutOfBoundsException {
        return lineAt(invoice, line).subject;
    }

    public float lineAmount(int invoice, int line) throws IndexOutOfBoundsException {
        return lineAt(invoice, line).amount;
    }

    public float total(int invoice) throws IndexOutOfBoundsException {
        return invoiceAt(invoice).total;
    }

    public int totalBits(int invoice) throws IndexOutOfBoundsException {
        return bitsOfFloat(invoiceAt(invoice).total);
    }

    public int totalCents(int invoice) throws IndexOutOfBoundsException {
        return (int) invoiceAt(invoice).total;
    }

    public int correct(int entry, int minutes) throws IndexOutOfBoundsException, IllegalArgumentException, IllegalStateException {
        Entry corrected = entryAt(entry);
        if (minutes < -LARGEST_CORRECTION || minutes > LARGEST_CORRECTION || minutes == 0) {
            throw new IllegalArgumentException("a correction is -600 to 600 minutes, but not 0");
        }
        if (corrected.state != FROZEN) {
            throw new IllegalStateException("the entry is not frozen");
        }
        if (correctionList.size() >= MOST_CORRECTIONS) {
            throw new IllegalStateException("there are 16 corrections");
        }
        correctionList.add(new Correction(corrected, minutes));
        return waitingMinutes(corrected.owner);
    }

    public int usedMinutes(int client) throws IndexOutOfBoundsException {
        Client owner = clientAt(client);
        openTime.pick(owner, true);
        return invoicedMinutes(owner) + openTime.minutesFor(owner);
    }

    public float budgetShare(int client) throws IndexOutOfBoundsException, ArithmeticException {
        int budget = clientAt(client).budget;
        if (budget == 0) {
            throw new ArithmeticException("the budget is 0");
        }
        return (float) usedMinutes(client) / (float) budget;
    }

    public char warning(int client) throws IndexOutOfBoundsException {
        int budget = clientAt(client).budget;
        if (budget == 0) {
            return 'n';
        }
        int used = usedMinutes(client);
        if ((float) used / (float) budget < 0.8f) {
            return 'n';
        }
        return used > budget ? 'o' : 'w';
    }

    public double meanMinutes() throws ArithmeticException {
        int kept = sheet.keptEntries();
        if (kept == 0) {
            throw new ArithmeticException("there are no entries");
        }
        tally.countByIntervals(0, sheet.now);
        return (double) tally.secondsOfAll() / 60.0 / (double) kept;
    }

    public long meanBits() throws ArithmeticException {
        return bitsOfDouble(meanMinutes());
    }

    public boolean isConsistent() {
        return entriesHold() && clientsHold() && correctionsHold() && invoicesHold() && waysAgree();
    }

    // ---- what a call requires

    private Client clientAt(int client) {
        if (client < 0 || client >= clientList.size()) {
            throw new IndexOutOfBoundsException("no such client");
        }
        return clientList.get(client);
    }

    private Entry entryAt(int entry) {
        if (entry < 0 || entry >= sheet.entries.size()) {
            throw new IndexOutOfBoundsException("no such entry");
        }
        return sheet.entries.get(entry);
    }

    private Invoice invoiceAt(int invoice) {
        if (invoice < 0 || invoice >= invoiceList.size()) {
            throw new IndexOutOfBoundsException("no such invoice");
        }
        return invoiceList.get(invoice);
    }

    private Line lineAt(int invoice, int line) {
        ArrayList<Line> lines = invoiceAt(invoice).lines;
        if (line < 0 || line >= lines.size()) {
            throw new IndexOutOfBoundsException("no such line");
        }
        return lines.get(line);
    }

    private void requireRounding(int unit, char mode, char level) {
        if (unit < 1 || unit > LARGEST_UNIT) {
            throw new IllegalArgumentException("a unit is 1 to 60 minutes");
        }
        if (mode != UP && mode != DOWN && mode != NEAREST) {
            throw new IllegalArgumentException("no such mode");
        }
        if (level != BY_ENTRY && level != BY_DAY && level != CARRIED) {
            throw new IllegalArgumentException("no such level");
        }
    }

    private void requireRate(int rate) {
        if (rate < 0 || rate > LARGEST_RATE) {
            throw new IllegalArgumentException("a rate is 0 to 50000 cents");
        }
    }

    private void requireDay(int day) {
        if (day < 0 || day >= DAYS) {
            throw new IllegalArgumentException("a day is 0 to 4");
        }
    }

    private void requireOpen(Entry entry) {
        if (!entry.isOpen()) {
            throw new IllegalStateException("the entry is frozen or removed");
        }
    }

    private void requireRoomForEntry() {
        if (sheet.entries.size() >= MOST_ENTRIES) {
            throw new IllegalStateException("there are 24 entries");
        }
    }

    // ---- parts of the calls

    private int dayStart(int day) {
        return day * DAY_MINUTES;
    }

    // No entry covers a minute from the present one on, so the walk need not go beyond it.
    private int dayEnd(int day) {
        return Math.min(dayStart(day) + DAY_MINUTES, sheet.now);
    }

    private void addEntryLines(Invoice made) {
        for (int place = 0; place < openTime.picked.size(); place++) {
            int subject = openTime.picked.get(place).number;
            made.addLine(ENTRY_LINE, openTime.minutesAt(place), subject);
        }
    }

    private void addDayLines(Invoice made) {
        for (int day = 0; day < DAYS; day++) {
            int seconds = openTime.secondsInDay(day);
            if (seconds > 0) {
                made.addLine(DAY_LINE, made.owner.roundSeconds(seconds), day);
            }
        }
    }

    private void addCorrectionLines(Invoice made) {
        for (int i = 0; i < correctionList.size(); i++) {
            Correction correction = correctionList.get(i);
            if (correction.waitsFor(made.owner)) {
                made.addLine(CORRECTION_LINE, correction.minutes, correction.entry.number);
                correction.invoiced = true;
            }
        }
    }

    private boolean hasWaitingCorrection(Client owner) {
        for (int i = 0; i < correctionList.size(); i++) {
            if (correctionList.get(i).waitsFor(owner)) {
                return true;
            }
        }
        return false;
    }

    private int waitingMinutes(Client owner) {
        int sum = 0;
        for (int i = 0; i < correctionList.size(); i++) {
            Correction correction = correctionList.get(i);
            if (correction.waitsFor(owner)) {
                sum += correction.minutes;
            }
        }
        return sum;
    }

    private int invoicedMinutes(Client owner) {
        int sum = 0;
        for (int i = 0; i < invoiceList.size(); i++) {
            Invoice made = invoiceList.get(i);
            if (made.owner == owner) {
                sum += made.minutes;
            }
        }
        return sum;
    }

    // ---- the invariants

    private boolean entriesHold() {
        for (int i = 0; i < sheet.entries.size(); i++) {
            Entry entry = sheet.entries.get(i);
            if (entry.number != i || entry.start < 0 || entry.end < entry.start || entry.end > sheet.now) {
                return false;
            }
            if (entry.state == RUNNING && entry.end != sheet.now) {
                return false;
            }
        }
        return sheet.now <= LAST_MINUTE && sheet.entries.size() <= MOST_ENTRIES && sheet.runningEntries() <= MOST_RUNNING;
    }

    private boolean clientsHold() {
        for (int i = 0; i < clientList.size(); i++) {
            Client client = clientList.get(i);
            openTime.pick(client, true);
            if (client.number != i || openTime.minutesFor(client) != openTime.minutesByLines(client)) {
                return false;
            }
        }
        return clientList.size() <= MOST_CLIENTS;
    }

    private boolean correctionsHold() {
        for (int i = 0; i < correctionList.size(); i++) {
            if (correctionList.get(i).entry.state != FROZEN) {
                return false;
            }
        }
        return correctionList.size() <= MOST_CORRECTIONS;
    }

    private boolean invoicesHold() {
        for (int i = 0; i < invoiceList.size(); i++) {
            Invoice made = invoiceList.get(i);
            if (made.sumOfAmounts() != made.total || made.sumOfMinutes() != made.minutes) {
                return false;
            }
        }
        return invoiceList.size() <= MOST_INVOICES;
    }

    private boolean waysAgree() {
        tally.countByIntervals(0, sheet.now);
        minuteTally.countByMinutes(0, sheet.now);
        return tally.agreesWith(minuteTally);
    }

    // ---- bits, by arithmetic alone: halving and doubling are exact

    // A total is never -0.0f, as its sum begins with 0.0f, and if not 0 it is far from the subnormal numbers.
    private static int bitsOfFloat(float value) {
        if (value == 0.0f) {
            return 0;
        }
        float size = value < 0.0f ? -value : value;
        int exponent = 127;
        while (size >= 2.0f && exponent < 254) {
            size = size / 2.0f;
            exponent++;
        }
        while (size < 1.0f && exponent > 1) {
            size = size * 2.0f;
            exponent--;
        }
        int fraction = (int) ((size - 1.0f) * 8388608.0f);
        int sign = value < 0.0f ? 1 << 31 : 0;
        return sign | exponent << 23 | fraction;
    }

    // A mean is not negative, and if not 0 it is far from the subnormal numbers.
    private static long bitsOfDouble(double value) {
        if (value <= 0.0) {
            return 0L;
        }
        double size = value;
        long exponent = 1023L;
        while (size >= 2.0 && exponent < 2046L) {
            size = size / 2.0;
            exponent++;
        }
        while (size < 1.0 && exponent > 1L) {
            size = size * 2.0;
            exponent--;
        }
        long fraction = (long) ((size - 1.0) * 4503599627370496.0);
        return exponent << 52 | fraction;
    }

    /** A client with its rounding, rate and budget. */
    private static final class Client {
        final int number;
        int unit;
        char mode;
        char level;
        int rate;
        int budget;

        Client(int number, int unit, char mode, char level, int rate) {
            this.number = number;
            this.unit = unit;
            this.mode = mode;
            this.level = level;
            this.rate = rate;
        }

        /** Rounds seconds, 0 or more, to minutes. */
        int roundSeconds(int seconds) {
            int step = MINUTE_SECONDS * unit;
            if (step <= 0) {
                return 0;
            }
            if (mode == UP) {
                return (seconds + step - 1) / step * unit;
            }
            if (mode == NEAREST) {
                return (2 * seconds + step) / (2 * step) * unit;
            }
            return seconds / step * unit;
        }
    }

    /** An entry of a client; while it runs, pass keeps its end at the present minute. */
    private static final class Entry {
        final int number;
        final Client owner;
        int start;
        int end;
        char state;
        int fixedSeconds;

        Entry(int number, Client owner, int start, int end, char state) {
            this.number = number;
            this.owner = owner;
            this.start = start;
            this.end = end;
            this.state = state;
        }

        boolean isOpen() {
            return state == RUNNING || state == ENDED;
        }

        boolean covers(int minute) {
            return start <= minute && minute < end && state != REMOVED;
        }
    }

    /** The present minute, the rule for overlaps and all entries in the order of their numbers. */
    private static final class Timesheet {
        final ArrayList<Entry> entries = new ArrayList<Entry>();
        int now;
        char rule = FULL;

        void moveTo(int minute) {
            now = minute;
            for (int i = 0; i < entries.size(); i++) {
                Entry entry = entries.get(i);
                if (entry.state == RUNNING) {
                    entry.end = minute;
                }
            }
        }

        int append(Client owner, int start, int end, char state) {
            int number = entries.size();
            entries.add(new Entry(number, owner, start, end, state));
            return number;
        }

        int runningEntries() {
            int running = 0;
            for (int i = 0; i < entries.size(); i++) {
                if (entries.get(i).state == RUNNING) {
                    running++;
                }
            }
            return running;
        }

        int keptEntries() {
            int kept = 0;
            for (int i = 0; i < entries.size(); i++) {
                if (entries.get(i).state != REMOVED) {
                    kept++;
                }
            }
            return kept;
        }

        /** The first minute behind the given one, up to the limit, at which an entry starts or ends or a day begins. */
        int nextChange(int minute, int limit) {
            int next = Math.min(limit, (minute / DAY_MINUTES + 1) * DAY_MINUTES);
            for (int i = 0; i < entries.size(); i++) {
                Entry entry = entries.get(i);
                if (entry.start > minute && entry.start < next) {
                    next = entry.start;
                }
                if (entry.end > minute && entry.end < next) {
                    next = entry.end;
                }
            }
            return next;
        }
    }

    /** The seconds of all entries, counted by the present rule over some range of minutes, in a cell for each entry and day. */
    private static final class Tally {
        private final Timesheet sheet;
        private final int[] cells = new int[MOST_ENTRIES * DAYS];
        private int active;
        private int latest;

        Tally(Timesheet sheet) {
            this.sheet = sheet;
        }

        void countByIntervals(int from, int to) {
            Arrays.fill(cells, 0);
            int minute = from;
            while (minute < to) {
                int next = Math.max(minute + 1, sheet.nextChange(minute, to));
                addStretch(minute, next - minute);
                minute = next;
            }
        }

        void countByMinutes(int from, int to) {
            Arrays.fill(cells, 0);
            for (int minute = from; minute < to; minute++) {
                addStretch(minute, 1);
            }
        }

        /** Adds the seconds of a number of minutes of one day, in which the active entries do not change. */
        private void addStretch(int minute, int minutes) {
            survey(minute);
            int place = 0;
            for (int i = 0; i < sheet.entries.size() && place < active; i++) {
                if (sheet.entries.get(i).covers(minute)) {
                    addToCell(i * DAYS + minute / DAY_MINUTES, minutes * secondsAt(place, i));
                    place++;
                }
            }
        }

        /** Finds how many entries are active in a minute, and which of them started last. */
        private void survey(int minute) {
            active = 0;
            latest = -1;
            int latestStart = -1;
            for (int i = 0; i < sheet.entries.size(); i++) {
                Entry entry = sheet.entries.get(i);
                if (entry.covers(minute)) {
                    active++;
                    if (entry.start >= latestStart) {
                        latest = i;
                        latestStart = entry.start;
                    }
                }
            }
        }

        /** The seconds of one minute for the active entry at a place among the active ones, by the present rule. */
        private int secondsAt(int place, int number) {
            if (sheet.rule == FULL) {
                return MINUTE_SECONDS;
            }
            if (sheet.rule == LATEST) {
                return number == latest ? MINUTE_SECONDS : 0;
            }
            if (active <= 0) {
                return 0;
            }
            int extra = place < MINUTE_SECONDS % active ? 1 : 0;
            return MINUTE_SECONDS / active + extra;
        }

        private void addToCell(int cell, int seconds) {
            if (cell >= 0 && cell < cells.length) {
                cells[cell] += seconds;
            }
        }

        int secondsInDay(Entry entry, int day) {
            int cell = entry.number * DAYS + day;
            return cell >= 0 && cell < cells.length ? cells[cell] : 0;
        }

        /** The counted seconds of an entry, if all its minutes were in the range. */
        int secondsOf(Entry entry) {
            if (entry.state == FROZEN) {
                return entry.fixedSeconds;
            }
            int sum = 0;
            int first = entry.number * DAYS;
            for (int cell = Math.max(0, first); cell < first + DAYS && cell < cells.length; cell++) {
                sum += cells[cell];
            }
            return sum;
        }

        int secondsOfAll() {
            int sum = 0;
            for (int i = 0; i < sheet.entries.size(); i++) {
                sum += secondsOf(sheet.entries.get(i));
            }
            return sum;
        }

        int openSecondsInDay(Client owner, int day) {
            int sum = 0;
            for (int i = 0; i < sheet.entries.size(); i++) {
                Entry entry = sheet.entries.get(i);
                if (entry.owner == owner && entry.isOpen()) {
                    sum += secondsInDay(entry, day);
                }
            }
            return sum;
        }

        boolean agreesWith(Tally other) {
            for (int cell = 0; cell < cells.length && cell < other.cells.length; cell++) {
                if (cells[cell] != other.cells[cell]) {
                    return false;
                }
            }
            return true;
        }
    }

    /** Open entries of one client in the order of their starts, with their counted seconds; one list, filled anew by each pick. */
    private static final class OpenTime {
        final ArrayList<Entry> picked = new ArrayList<Entry>();
        private final Timesheet sheet;
        private final Tally tally;

        OpenTime(Timesheet sheet, Tally tally) {
            this.sheet = sheet;
            this.tally = tally;
        }

        void pick(Client owner, boolean withRunning) {
            picked.clear();
            for (int i = 0; i < sheet.entries.size(); i++) {
                Entry entry = sheet.entries.get(i);
                if (entry.owner == owner && (entry.state == ENDED || withRunning && entry.state == RUNNING)) {
                    picked.add(placeBehind(entry.start), entry);
                }
            }
            tally.countByIntervals(0, sheet.now);
        }

        /** The place behind all picked entries that start no later: entries come in the order of their numbers. */
        private int placeBehind(int start) {
            int place = picked.size();
            while (place > 0 && picked.get(place - 1).start > start) {
                place--;
            }
            return place;
        }

        int placeOf(Entry entry) {
            for (int place = 0; place < picked.size(); place++) {
                if (picked.get(place) == entry) {
                    return place;
                }
            }
            return -1;
        }

        /** The counted seconds of the first picked entries, as many as the number says. */
        private int secondsOfFirst(int number) {
            int sum = 0;
            for (int place = 0; place < number && place < picked.size(); place++) {
                sum += tally.secondsOf(picked.get(place));
            }
            return sum;
        }

        int secondsInDay(int day) {
            int sum = 0;
            for (int place = 0; place < picked.size(); place++) {
                sum += tally.secondsInDay(picked.get(place), day);
            }
            return sum;
        }

        /** The rounded minutes of the picked entry at a place, by the levels 'e' and 'c'. */
        int minutesAt(int place) {
            if (place < 0 || place >= picked.size()) {
                return 0;
            }
            Entry entry = picked.get(place);
            if (entry.owner.level == BY_ENTRY) {
                return entry.owner.roundSeconds(tally.secondsOf(entry));
            }
            int before = secondsOfFirst(place);
            int upToThis = before + tally.secondsOf(entry);
            return entry.owner.roundSeconds(upToThis) - entry.owner.roundSeconds(before);
        }

        int minutesFor(Client owner) {
            if (owner.level == CARRIED) {
                return owner.roundSeconds(secondsOfFirst(picked.size()));
            }
            return minutesByLines(owner);
        }

        int minutesByLines(Client owner) {
            int sum = 0;
            if (owner.level == BY_DAY) {
                for (int day = 0; day < DAYS; day++) {
                    sum += owner.roundSeconds(secondsInDay(day));
                }
                return sum;
            }
            for (int place = 0; place < picked.size(); place++) {
                sum += minutesAt(place);
            }
            return sum;
        }

        void freezePicked() {
            for (int place = 0; place < picked.size(); place++) {
                Entry entry = picked.get(place);
                entry.fixedSeconds = tally.secondsOf(entry);
                entry.state = FROZEN;
            }
        }
    }

    /** A line of an invoice. */
    private static final class Line {
        final char kind;
        final int minutes;
        final int subject;
        final float amount;

        Line(char kind, int minutes, int subject, float amount) {
            this.kind = kind;
            this.minutes = minutes;
            this.subject = subject;
            this.amount = amount;
        }
    }

    /** An invoice: amounts and sums are kept as they were when it was made, so that later changes do not affect it. */
    private static final class Invoice {
        final Client owner;
        final ArrayList<Line> lines = new ArrayList<Line>();
        int minutes;
        float total = 0.0f;

        Invoice(Client owner) {
            this.owner = owner;
        }

        void addLine(char kind, int added, int subject) {
            float amount = (float) added * (float) owner.rate / 60.0f;
            lines.add(new Line(kind, added, subject, amount));
            minutes += added;
            total = total + amount;
        }

        int sumOfMinutes() {
            int sum = 0;
            for (int i = 0; i < lines.size(); i++) {
                sum += lines.get(i).minutes;
            }
            return sum;
        }

        float sumOfAmounts() {
            float sum = 0.0f;
            for (int i = 0; i < lines.size(); i++) {
                sum = sum + lines.get(i).amount;
            }
            return sum;
        }
    }

    /** A correction of a frozen entry; it waits until an invoice takes it. */
    private static final class Correction {
        final Entry entry;
        final int minutes;
        boolean invoiced;

        Correction(Entry entry, int minutes) {
            this.entry = entry;
            this.minutes = minutes;
        }

        boolean waitsFor(Client owner) {
            return !invoiced && entry.owner == owner;
        }
    }
}
