import java.util.ArrayList;
import java.util.Arrays;
import java.util.Comparator;
import java.util.List;
import java.util.stream.Collectors;
import java.util.stream.IntStream;

/**
 * The document once more, written for plainness alone and apart from the class: every minute is
 * looked at by itself, and the Java library does the sorting and the bits.
 */
final class ModelLedger {
    private static final class Client {
        int unit;
        char mode;
        char level;
        int rate;
        int budget;
    }

    private static final class Entry {
        int number;
        int client;
        int start;
        int end;
        char state;
        int fixed;
    }

    private static final class Line {
        char kind;
        int minutes;
        int subject;
        float amount;
    }

    private static final class Invoice {
        int client;
        final List<Line> lines = new ArrayList<>();
    }

    private static final class Correction {
        int entry;
        int minutes;
        boolean invoiced;
    }

    private int now = 0;
    private char rule = 'f';
    private String output = "";
    private final List<Client> clients = new ArrayList<>();
    private final List<Entry> entries = new ArrayList<>();
    private final List<Invoice> invoices = new ArrayList<>();
    private final List<Correction> corrections = new ArrayList<>();
    private int[][] grid = null;

    // ---- what the terms say

    private static void argument(boolean holds) {
        if (!holds) {
            throw new IllegalArgumentException();
        }
    }

    private static void index(boolean holds) {
        if (!holds) {
            throw new IndexOutOfBoundsException();
        }
    }

    private static void state(boolean holds) {
        if (!holds) {
            throw new IllegalStateException();
        }
    }

    private Client client(int number) {
        index(number >= 0 && number < clients.size());
        return clients.get(number);
    }

    private Entry entry(int number) {
        index(number >= 0 && number < entries.size());
        return entries.get(number);
    }

    private int end(Entry entry) {
        return entry.state == 'r' ? now : entry.end;
    }

    /** The seconds of each entry in each minute. */
    private int[][] grid() {
        if (grid == null) {
            grid = new int[24][3000];
            for (int minute = 0; minute < now; minute++) {
                int at = minute;
                List<Entry> active = entries.stream().filter(e -> e.state != 'x' && e.start <= at && at < end(e)).collect(Collectors.toList());
                fillMinute(minute, active);
            }
        }
        return grid;
    }

    private void fillMinute(int minute, List<Entry> active) {
        Entry latest = active.stream().max(Comparator.comparingInt((Entry e) -> e.start).thenComparingInt(e -> e.number)).orElse(null);
        for (int i = 0; i < active.size(); i++) {
            int seconds = 60;
            if (rule == 'l') {
                seconds = active.get(i) == latest ? 60 : 0;
            } else if (rule == 's') {
                seconds = 60 / active.size() + (i < 60 % active.size() ? 1 : 0);
            }
            grid[active.get(i).number][minute] = seconds;
        }
    }

    private int seconds(Entry entry) {
        if (entry.state == 'f') {
            return entry.fixed;
        }
        return IntStream.of(grid()[entry.number]).sum();
    }

    private int seconds(Entry entry, int day) {
        return IntStream.of(Arrays.copyOfRange(grid()[entry.number], 600 * day, 600 * day + 600)).sum();
    }

    private static int round(Client client, int seconds) {
        double quotient = seconds / (60.0 * client.unit);
        double whole = Math.floor(quotient);
        // The least step of such a quotient is far above the error of a double.
        if (client.mode == 'u' && quotient > whole || client.mode == 'n' && quotient - whole > 0.4999999) {
            whole++;
        }
        return (int) whole * client.unit;
    }

    private List<Entry> open(int client, String states) {
        return entries.stream()
            .filter(e -> e.client == client && states.indexOf(e.state) >= 0)
            .sorted(Comparator.comparingInt((Entry e) -> e.start).thenComparingInt(e -> e.number))
            .collect(Collectors.toList());
    }

    private int rounded(Client client, List<Entry> open, int place) {
        if (client.level == 'e') {
            return round(client, seconds(open.get(place)));
        }
        int before = open.subList(0, place).stream().mapToInt(this::seconds).sum();
        return round(client, before + seconds(open.get(place))) - round(client, before);
    }

    private int daySum(List<Entry> open, int day) {
        return open.stream().mapToInt(e -> seconds(e, day)).sum();
    }

    private int kept() {
        return (int) entries.stream().filter(e -> e.state != 'x').count();
    }

    private void changed() {
        grid = null;
    }

    // ---- the face

    public int now() {
        return now;
    }

    public int pass(int minutes) {
        argument(minutes >= 1 && minutes <= 600);
        state(now + minutes <= 2999);
        now += minutes;
        changed();
        return now;
    }

    public char setRule(char rule) {
        argument("fls".indexOf(rule) >= 0);
        char previous = this.rule;
        this.rule = rule;
        changed();
        return previous;
    }

    public int addClient(int unit, char mode, char level, int rate) {
        argument(unit >= 1 && unit <= 60 && "udn".indexOf(mode) >= 0 && "edc".indexOf(level) >= 0 && rate >= 0 && rate <= 50000);
        state(clients.size() < 5);
        Client client = new Client();
        client.unit = unit;
        client.mode = mode;
        client.level = level;
        client.rate = rate;
        clients.add(client);
        return clients.size() - 1;
    }

    public int clients() {
        return clients.size();
    }

    public int setRounding(int client, int unit, char mode, char level) {
        Client found = client(client);
        argument(unit >= 1 && unit <= 60 && "udn".indexOf(mode) >= 0 && "edc".indexOf(level) >= 0);
        int previous = found.unit;
        found.unit = unit;
        found.mode = mode;
        found.level = level;
        return previous;
    }

    public int setRate(int client, int rate) {
        Client found = client(client);
        argument(rate >= 0 && rate <= 50000);
        int previous = found.rate;
        found.rate = rate;
        return previous;
    }

    public int setBudget(int client, int minutes) {
        Client found = client(client);
        argument(minutes >= 0 && minutes <= 9999);
        int previous = found.budget;
        found.budget = minutes;
        return previous;
    }

    private int make(int client, int start, int end, char state) {
        Entry entry = new Entry();
        entry.number = entries.size();
        entry.client = client;
        entry.start = start;
        entry.end = end;
        entry.state = state;
        entries.add(entry);
        changed();
        return entry.number;
    }

    public int start(int client) {
        client(client);
        state(entries.size() < 24 && entries.stream().filter(e -> e.state == 'r').count() < 4);
        return make(client, now, now, 'r');
    }

    public int stop(int entry) {
        Entry found = entry(entry);
        state(found.state == 'r');
        found.state = 'e';
        found.end = now;
        changed();
        return found.end - found.start;
    }

    public int addEntry(int client, int start, int end) {
        client(client);
        argument(0 <= start && start <= end && end <= now);
        state(entries.size() < 24);
        return make(client, start, end, 'e');
    }

    public int setStart(int entry, int minute) {
        Entry found = entry(entry);
        state(found.state == 'r' || found.state == 'e');
        argument(0 <= minute && minute <= end(found));
        int previous = found.start;
        found.start = minute;
        changed();
        return previous;
    }

    public int setEnd(int entry, int minute) {
        Entry found = entry(entry);
        state(found.state == 'e');
        argument(found.start <= minute && minute <= now);
        int previous = found.end;
        found.end = minute;
        changed();
        return previous;
    }

    public int remove(int entry) {
        Entry found = entry(entry);
        state(found.state == 'r' || found.state == 'e');
        found.end = end(found);
        found.state = 'x';
        changed();
        return kept();
    }

    public int entries() {
        return entries.size();
    }

    public char state(int entry) {
        return entry(entry).state;
    }

    public int startOf(int entry) {
        return entry(entry).start;
    }

    public int endOf(int entry) {
        return end(entry(entry));
    }

    public int counted(int entry) {
        return seconds(entry(entry));
    }

    public int countedByMinutes(int entry) {
        return seconds(entry(entry));
    }

    public int writeEntry(int entry) {
        Entry found = entry(entry);
        output = entry + "" + found.state + found.client + ":" + found.start + "-" + end(found) + "=" + seconds(found);
        return output.length();
    }

    public char charAt(int index) {
        index(index >= 0 && index < output.length());
        return output.charAt(index);
    }

    public int rounded(int entry) {
        Entry found = entry(entry);
        state(found.state == 'r' || found.state == 'e');
        Client owner = clients.get(found.client);
        if (owner.level == 'd') {
            throw new UnsupportedOperationException();
        }
        List<Entry> open = open(found.client, "re");
        return rounded(owner, open, open.indexOf(found));
    }

    public int daySeconds(int client, int day) {
        client(client);
        argument(day >= 0 && day <= 4);
        return daySum(open(client, "re"), day);
    }

    public int daySecondsByMinutes(int client, int day) {
        return daySeconds(client, day);
    }

    public int openMinutes(int client) {
        Client owner = client(client);
        List<Entry> open = open(client, "re");
        if (owner.level == 'd') {
            return IntStream.range(0, 5).map(day -> round(owner, daySum(open, day))).sum();
        }
        return IntStream.range(0, open.size()).map(place -> rounded(owner, open, place)).sum();
    }

    public int openMinutesByLines(int client) {
        return openMinutes(client);
    }

    private void line(Invoice invoice, char kind, int minutes, int subject) {
        Line line = new Line();
        line.kind = kind;
        line.minutes = minutes;
        line.subject = subject;
        line.amount = (float) minutes * (float) clients.get(invoice.client).rate / 60.0f;
        invoice.lines.add(line);
    }

    private List<Correction> waiting(int client) {
        return corrections.stream().filter(c -> !c.invoiced && entries.get(c.entry).client == client).collect(Collectors.toList());
    }

    public int invoice(int client) {
        Client owner = client(client);
        List<Entry> ended = open(client, "e");
        state(invoices.size() < 8 && !(ended.isEmpty() && waiting(client).isEmpty()));
        Invoice invoice = new Invoice();
        invoice.client = client;
        for (int day = 0; owner.level == 'd' && day < 5; day++) {
            if (daySum(ended, day) >= 1) {
                line(invoice, 'd', round(owner, daySum(ended, day)), day);
            }
        }
        for (int place = 0; owner.level != 'd' && place < ended.size(); place++) {
            line(invoice, 'e', rounded(owner, ended, place), ended.get(place).number);
        }
        for (Correction correction : waiting(client)) {
            line(invoice, 'c', correction.minutes, correction.entry);
            correction.invoiced = true;
        }
        for (Entry entry : ended) {
            entry.fixed = seconds(entry);
        }
        for (Entry entry : ended) {
            entry.state = 'f';
        }
        invoices.add(invoice);
        return invoices.size() - 1;
    }

    private Invoice invoiceAt(int number) {
        index(number >= 0 && number < invoices.size());
        return invoices.get(number);
    }

    private Line line(int invoice, int line) {
        Invoice found = invoiceAt(invoice);
        index(line >= 0 && line < found.lines.size());
        return found.lines.get(line);
    }

    public int invoices() {
        return invoices.size();
    }

    public int lines(int invoice) {
        return invoiceAt(invoice).lines.size();
    }

    public char lineKind(int invoice, int line) {
        return line(invoice, line).kind;
    }

    public int lineMinutes(int invoice, int line) {
        return line(invoice, line).minutes;
    }

    public int lineSubject(int invoice, int line) {
        return line(invoice, line).subject;
    }

    public float lineAmount(int invoice, int line) {
        return line(invoice, line).amount;
    }

    public float total(int invoice) {
        float sum = 0.0f;
        for (Line line : invoiceAt(invoice).lines) {
            sum += line.amount;
        }
        return sum;
    }

    public int totalBits(int invoice) {
        return Float.floatToIntBits(total(invoice));
    }

    public int totalCents(int invoice) {
        return (int) total(invoice);
    }

    public int correct(int entry, int minutes) {
        Entry found = entry(entry);
        argument(minutes != 0 && minutes >= -600 && minutes <= 600);
        state(found.state == 'f' && corrections.size() < 16);
        Correction correction = new Correction();
        correction.entry = entry;
        correction.minutes = minutes;
        corrections.add(correction);
        return waiting(found.client).stream().mapToInt(c -> c.minutes).sum();
    }

    public int usedMinutes(int client) {
        client(client);
        int invoiced = invoices.stream().filter(i -> i.client == client).flatMap(i -> i.lines.stream()).mapToInt(l -> l.minutes).sum();
        return invoiced + openMinutes(client);
    }

    public float budgetShare(int client) {
        if (client(client).budget == 0) {
            throw new ArithmeticException();
        }
        return (float) usedMinutes(client) / (float) client(client).budget;
    }

    public char warning(int client) {
        int budget = client(client).budget;
        if (budget == 0 || budgetShare(client) < 0.8f) {
            return 'n';
        }
        return usedMinutes(client) > budget ? 'o' : 'w';
    }

    public double meanMinutes() {
        if (kept() == 0) {
            throw new ArithmeticException();
        }
        int sum = entries.stream().filter(e -> e.state != 'x').mapToInt(this::seconds).sum();
        return (double) sum / 60.0 / (double) kept();
    }

    public long meanBits() {
        return Double.doubleToLongBits(meanMinutes());
    }

    public boolean isConsistent() {
        return true;
    }
}
