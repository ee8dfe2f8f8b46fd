import java.lang.reflect.Constructor;
import java.lang.reflect.Field;
import java.lang.reflect.Method;
import java.lang.reflect.Modifier;
import java.util.TreeSet;

/** The public face: exactly the signatures of the document, and nothing more that others can see. */
public final class FaceTest {
    private static final String[] METHODS = {
        "int now()",
        "int pass(int) IllegalArgumentException IllegalStateException",
        "char setRule(char) IllegalArgumentException",
        "int addClient(int,char,char,int) IllegalArgumentException IllegalStateException",
        "int clients()",
        "int setRounding(int,int,char,char) IndexOutOfBoundsException IllegalArgumentException",
        "int setRate(int,int) IndexOutOfBoundsException IllegalArgumentException",
        "int setBudget(int,int) IndexOutOfBoundsException IllegalArgumentException",
        "int start(int) IndexOutOfBoundsException IllegalStateException",
        "int stop(int) IndexOutOfBoundsException IllegalStateException",
        "int addEntry(int,int,int) IndexOutOfBoundsException IllegalArgumentException IllegalStateException",
        "int setStart(int,int) IndexOutOfBoundsException IllegalStateException IllegalArgumentException",
        "int setEnd(int,int) IndexOutOfBoundsException IllegalStateException IllegalArgumentException",
        "int remove(int) IndexOutOfBoundsException IllegalStateException",
        "int entries()",
        "char state(int) IndexOutOfBoundsException",
        "int startOf(int) IndexOutOfBoundsException",
        "int endOf(int) IndexOutOfBoundsException",
        "int counted(int) IndexOutOfBoundsException",
        "int countedByMinutes(int) IndexOutOfBoundsException",
        "int writeEntry(int) IndexOutOfBoundsException",
        "char charAt(int) IndexOutOfBoundsException",
        "int rounded(int) IndexOutOfBoundsException IllegalStateException UnsupportedOperationException",
        "int daySeconds(int,int) IndexOutOfBoundsException IllegalArgumentException",
        "int daySecondsByMinutes(int,int) IndexOutOfBoundsException IllegalArgumentException",
        "int openMinutes(int) IndexOutOfBoundsException",
        "int openMinutesByLines(int) IndexOutOfBoundsException",
        "int invoice(int) IndexOutOfBoundsException IllegalStateException",
        "int invoices()",
        "int lines(int) IndexOutOfBoundsException",
        "char lineKind(int,int) IndexOutOfBoundsException",
        "int lineMinutes(int,int) IndexOutOfBoundsException",
        "int lineSubject(int,int) IndexOutOfBoundsException",
        "float lineAmount(int,int) IndexOutOfBoundsException",
        "float total(int) IndexOutOfBoundsException",
        "int totalBits(int) IndexOutOfBoundsException",
        "int totalCents(int) IndexOutOfBoundsException",
        "int correct(int,int) IndexOutOfBoundsException IllegalArgumentException IllegalStateException",
        "int usedMinutes(int) IndexOutOfBoundsException",
        "float budgetShare(int) IndexOutOfBoundsException ArithmeticException",
        "char warning(int) IndexOutOfBoundsException",
        "double meanMinutes() ArithmeticException",
        "long meanBits() ArithmeticException",
        "boolean isConsistent()",
    };

    public static void main(String[] args) {
        Check check = new Check();
        TreeSet<String> due = new TreeSet<>();
        for (String method : METHODS) {
            due.add(method);
        }
        TreeSet<String> got = new TreeSet<>();
        TreeSet<String> hidden = new TreeSet<>();
        for (Method method : TimerLedger.class.getDeclaredMethods()) {
            if (Modifier.isPrivate(method.getModifiers())) {
                hidden.add(method.getName());
            } else {
                check.same(method.getName() + " is public and not static", method.getModifiers(), Modifier.PUBLIC);
                got.add(signature(method));
            }
        }
        check.same("the methods", got, due);
        for (Method method : TimerLedger.class.getMethods()) {
            check.same("a private method named " + method.getName(), hidden.contains(method.getName()), false);
        }
        checkOtherMembers(check);
        check.end();
    }

    private static void checkOtherMembers(Check check) {
        check.same("the class's modifiers", TimerLedger.class.getModifiers(), Modifier.PUBLIC | Modifier.FINAL);
        Constructor<?>[] constructors = TimerLedger.class.getDeclaredConstructors();
        check.same("the number of constructors", constructors.length, 1);
        check.same("the constructor's modifiers", constructors[0].getModifiers(), Modifier.PUBLIC);
        check.same("the constructor's parameters", constructors[0].getParameterCount(), 0);
        for (Field field : TimerLedger.class.getDeclaredFields()) {
            check.same(field.getName() + " is private", Modifier.isPrivate(field.getModifiers()), true);
        }
        for (Class<?> inside : TimerLedger.class.getDeclaredClasses()) {
            boolean seen = Modifier.isPublic(inside.getModifiers()) || Modifier.isProtected(inside.getModifiers());
            check.same(inside.getName() + " is seen outside", seen, false);
        }
    }

    private static String signature(Method method) {
        StringBuilder text = new StringBuilder(method.getReturnType().getSimpleName());
        text.append(' ').append(method.getName()).append('(');
        String comma = "";
        for (Class<?> parameter : method.getParameterTypes()) {
            text.append(comma).append(parameter.getSimpleName());
            comma = ",";
        }
        text.append(')');
        for (Class<?> thrown : method.getExceptionTypes()) {
            text.append(' ').append(thrown.getSimpleName());
        }
        return text.toString();
    }
}
