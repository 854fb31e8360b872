import java.io.IOException;
import java.lang.reflect.Method;
import java.lang.reflect.Modifier;
import java.nio.file.Files;
import java.nio.file.Path;
import java.util.regex.Matcher;
import java.util.regex.Pattern;

/** README.md: the answers of its example are the ones that stand there, and each call is named. */
public final class ReadmeTest {
    public static void main(String[] args) throws IOException {
        String readme = Files.readString(Path.of("README.md"));
        example(readme);
        calls(readme);
        Check.end("ReadmeTest");
    }

    private static void example(String readme) {
        ReceivablesBook book = new ReceivablesBook();
        int customer = book.addCustomer(0, 2, 900);
        int invoice = book.postInvoice(customer, 125000, 30);
        book.passDays(45);
        told(readme, "int level = book.levelOf(invoice);", book.levelOf(invoice));
        book.postPayment(customer, 100000);
        told(readme, "int open = book.openOf(invoice);", book.openOf(invoice));
        int interest = book.chargeInterest(customer, 14);
        told(readme, "int interest = book.chargeInterest(customer, 14);", interest);
        told(readme, "int charged = book.amountOf(interest);", book.amountOf(interest));
        told(readme, "int owed = book.balance(customer);", book.balance(customer));
        told(readme, "int next = book.daysToReminder(invoice);", book.daysToReminder(invoice));
    }

    /** The line stands in the example, and the comment behind it begins with the answer. */
    private static void told(String readme, String line, int answer) {
        Matcher found = Pattern.compile(Pattern.quote(line) + " +// (\\d+)").matcher(readme);
        Check.equal("README.md: " + line, String.valueOf(answer), found.find() ? found.group(1) : "nothing");
    }

    private static void calls(String readme) {
        for (Method m : ReceivablesBook.class.getDeclaredMethods()) {
            if (Modifier.isPublic(m.getModifiers())) {
                Check.isTrue("README.md names " + m.getName(), readme.contains("`" + m.getName() + "`"));
            }
        }
    }
}
