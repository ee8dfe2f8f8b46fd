import java.lang.reflect.InvocationTargetException;
import java.lang.reflect.Method;
import java.util.ArrayList;
import java.util.Comparator;
import java.util.List;

/**
 * All promises at once: long runs of calls, right and wrong ones, on the class and on the model,
 * which must give the same answers and throw the very same exceptions. Every run is the same
 * each time, for its numbers come from its seed.
 */
public final class RandomRunsTest {
    private static final int RUNS = 400;
    private static final int CALLS = 512;
    private static final char[] LETTERS = {'f', 'l', 's', 'u', 'd', 'n', 'e', 'd', 'c'};
    private static final String CHANGERS = " pass setRule addClient setRounding start stop addEntry setStart setEnd correct ";
    private static final String RARE = " remove invoice ";

    private final List<Method> calls = new ArrayList<>();
    private final Check check;
    private final int run;
    private long seed;
    private TimerLedger ledger;
    private ModelLedger model;

    private RandomRunsTest(Check check, int run) {
        this.check = check;
        this.run = run;
        this.seed = 88172645463325252L + run * 7919L;
        for (Method method : TimerLedger.class.getDeclaredMethods()) {
            if (java.lang.reflect.Modifier.isPublic(method.getModifiers())) {
                int times = CHANGERS.contains(" " + method.getName() + " ") ? 5 : RARE.contains(" " + method.getName() + " ") ? 2 : 1;
                for (int i = 0; i < times; i++) {
                    calls.add(method);
                }
            }
        }
        calls.sort(Comparator.comparing(Method::getName));
    }

    public static void main(String[] args) throws Exception {
        Check check = new Check();
        for (int run = 0; run < RUNS; run++) {
            new RandomRunsTest(check, run).play();
        }
        check.end();
    }

    private int below(int bound) {
        seed ^= seed << 13;
        seed ^= seed >>> 7;
        seed ^= seed << 17;
        return (int) Math.floorMod(seed, (long) bound);
    }

    private void play() throws Exception {
        ledger = new TimerLedger();
        model = new ModelLedger();
        StringBuilder told = new StringBuilder();
        for (int call = 0; call < CALLS; call++) {
            Method method = calls.get(below(calls.size()));
            Object[] values = valuesFor(method);
            Object got = answer(ledger, method, values);
            Object due = answer(model, ModelLedger.class.getMethod(method.getName(), method.getParameterTypes()), values);
            told.append(method.getName()).append(java.util.Arrays.toString(values)).append(' ');
            if (!due.equals(got)) {
                check.report("run " + run + ", call " + call + ": " + told + "answered " + got + ", due is " + due);
                return;
            }
        }
    }

    private Object answer(Object target, Method method, Object[] values) throws IllegalAccessException {
        try {
            return method.invoke(target, values);
        } catch (InvocationTargetException thrown) {
            if (target == ledger && !Check.isThrownByTheClass(thrown.getCause())) {
                check.report("run " + run + ": " + method.getName() + " left the throwing to the machine or the library");
            }
            return thrown.getCause().getClass();
        }
    }

    private Object[] valuesFor(Method method) {
        Class<?>[] types = method.getParameterTypes();
        Object[] values = new Object[types.length];
        for (int i = 0; i < types.length; i++) {
            boolean wild = below(40) == 0;
            values[i] = types[i] == char.class ? (Object) letterFor(method.getName(), i, wild) : (Object) numberFor(method.getName(), i, wild);
        }
        return values;
    }

    private char letterFor(String name, int place, boolean wild) {
        if (wild) {
            return below(2) == 0 ? (char) below(65536) : LETTERS[below(LETTERS.length)];
        }
        int kind = name.equals("setRule") ? 0 : name.equals("addClient") ? place : place - 1;
        return LETTERS[3 * kind + below(3)];
    }

    private int numberFor(String name, int place, boolean wild) {
        if (wild) {
            return wildNumber();
        }
        switch (name) {
            case "pass": return below(4) == 0 ? 1 + below(600) : 1 + below(60);
            case "addClient": return place == 0 ? 1 + below(60) : below(50001);
            case "setRounding": return place == 0 ? below(model.clients() + 1) : 1 + below(60);
            case "setRate": return place == 0 ? below(model.clients() + 1) : below(50001);
            case "setBudget": return place == 0 ? below(model.clients() + 1) : below(3) * below(3333);
            case "addEntry": return place == 0 ? below(model.clients() + 1) : minute();
            case "setStart": case "setEnd": return place == 0 ? below(model.entries() + 1) : minute();
            case "correct": return place == 0 ? below(model.entries() + 1) : below(1203) - 601;
            case "daySeconds": case "daySecondsByMinutes": return place == 0 ? below(model.clients() + 1) : below(6);
            case "charAt": return below(24);
            case "lineKind": case "lineMinutes": case "lineSubject": case "lineAmount": return place == 0 ? below(model.invoices() + 1) : below(8);
            case "lines": case "total": case "totalBits": case "totalCents": return below(model.invoices() + 1);
            case "start": case "openMinutes": case "openMinutesByLines": case "invoice": case "usedMinutes": case "budgetShare": case "warning":
                return below(model.clients() + 1);
            default: return below(model.entries() + 1);
        }
    }

    /** Often a minute near the present one or at a border of a day, so that entries meet. */
    private int minute() {
        int now = model.now();
        switch (below(4)) {
            case 0: return Math.max(0, now - below(100));
            case 1: return Math.min(now, 600 * below(5) + below(3));
            default: return below(now + 1);
        }
    }

    private int wildNumber() {
        int[] edges = {Integer.MIN_VALUE, -601, -1, 0, 5, 24, 600, 601, 9999, 10000, 50001, Integer.MAX_VALUE};
        return edges[below(edges.length)] + below(2);
    }
}
