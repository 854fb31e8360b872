import java.lang.reflect.Constructor;
import java.lang.reflect.Field;
import java.lang.reflect.Method;
import java.lang.reflect.Modifier;
import java.util.Arrays;
import java.util.TreeSet;

/** The document's public face: each signature with its throws clause, and no member beside them. */
public final class FaceTest {
    private static final String INDEX = "IndexOutOfBoundsException";
    private static final String ARGUMENT = "IllegalArgumentException";
    private static final String STATE = "IllegalStateException";

    private static final String[] FACE = {
        "int addCustomer(int,int,int) " + ARGUMENT + " " + STATE,
        "int setRule(int,int) " + INDEX + " " + ARGUMENT,
        "int setRate(int,int) " + INDEX + " " + ARGUMENT,
        "int pauseReminders(int,int) " + INDEX + " " + ARGUMENT,
        "int today()",
        "int passDays(int) " + ARGUMENT + " " + STATE,
        "int countDays(int,int,int) " + ARGUMENT,
        "int postInvoice(int,int,int) " + INDEX + " " + ARGUMENT + " " + STATE,
        "int postPayment(int,int) " + INDEX + " " + ARGUMENT + " " + STATE,
        "int allocate(int,int,int) " + INDEX + " " + ARGUMENT + " " + STATE,
        "int allocateRest(int) " + INDEX,
        "int release(int,int) " + INDEX,
        "int reverse(int) " + INDEX + " " + STATE,
        "int dispute(int,int) " + INDEX + " " + ARGUMENT + " " + STATE,
        "int disputeAll(int,int) " + INDEX + " " + ARGUMENT + " " + STATE,
        "int settle(int,int) " + INDEX + " " + STATE + " " + ARGUMENT,
        "int chargeInterest(int,int) " + INDEX + " " + ARGUMENT + " " + STATE,
        "int accrued(int) " + INDEX,
        "boolean isInterest(int) " + INDEX,
        "int customers()",
        "int invoices()",
        "int payments()",
        "int amountOf(int) " + INDEX,
        "int dueDay(int) " + INDEX,
        "int openOf(int) " + INDEX,
        "int openByLedger(int) " + INDEX,
        "int disputedOf(int) " + INDEX,
        "int allocated(int,int) " + INDEX,
        "int unallocated(int) " + INDEX,
        "int balance(int) " + INDEX,
        "int bucketOf(int) " + INDEX,
        "int ageing(int,int) " + INDEX,
        "int oldest(int) " + INDEX,
        "int levelOf(int) " + INDEX,
        "int daysToReminder(int) " + INDEX,
        "int invoicesAt(int) " + ARGUMENT,
        "int ledgerLines()",
        "int lineInvoice(int) " + INDEX,
        "int lineAmount(int) " + INDEX,
    };

    public static void main(String[] args) {
        Class<?> book = ReceivablesBook.class;
        Check.isTrue("the class is public and final",
                Modifier.isPublic(book.getModifiers()) && Modifier.isFinal(book.getModifiers()));
        TreeSet<String> seen = new TreeSet<>();
        TreeSet<String> privateNames = new TreeSet<>();
        for (Method m : book.getDeclaredMethods()) {
            if (Modifier.isPrivate(m.getModifiers())) {
                privateNames.add(m.getName());
            } else {
                seen.add(signature(m));
            }
        }
        Check.equal("the methods that are not private", new TreeSet<>(Arrays.asList(FACE)).toString(), seen.toString());
        for (String line : FACE) {
            String name = line.substring(line.indexOf(' ') + 1, line.indexOf('('));
            Check.isTrue("no private method is named " + name, !privateNames.contains(name));
        }
        for (Field f : book.getDeclaredFields()) {
            Check.isTrue("field " + f.getName() + " is private", Modifier.isPrivate(f.getModifiers()));
        }
        Constructor<?>[] made = book.getDeclaredConstructors();
        Check.equal("constructors", 1, made.length);
        Check.isTrue("the constructor is public and takes nothing",
                Modifier.isPublic(made[0].getModifiers()) && made[0].getParameterCount() == 0);
        Check.end("FaceTest");
    }

    private static String signature(Method m) {
        StringBuilder s = new StringBuilder();
        s.append(m.getReturnType().getSimpleName()).append(' ').append(m.getName()).append('(');
        for (int i = 0; i < m.getParameterCount(); i++) {
            s.append(i > 0 ? "," : "").append(m.getParameterTypes()[i].getSimpleName());
        }
        s.append(')');
        for (Class<?> thrown : m.getExceptionTypes()) {
            s.append(' ').append(thrown.getSimpleName());
        }
        return s.toString();
    }
}
