import java.util.TreeSet;
import java.util.function.Supplier;

/**
 * Each argument of each call: the least and the greatest value in its range are taken; the first
 * values outside, and the extremes of an int, are refused with the exception that is due, and a book
 * on which they were refused goes on like one on which they were not called.
 */
public final class RangesTest {
    private static final String NOTHING = "nothing";
    private static final String INDEX = "IndexOutOfBoundsException";
    private static final String ARGUMENT = "IllegalArgumentException";
    private static final String STATE = "IllegalStateException";

    private interface IntCall {
        void on(ReceivablesBook b, int value);
    }

    private static Supplier<ReceivablesBook> scene;
    private static String sceneName;
    private static String undisturbedFuture;

    public static void main(String[] args) {
        begin("empty", Books::empty);
        noNumberAtAll();
        customerArguments();
        dayArguments();
        begin("mixed", Books::mixed);
        customerArguments();
        dayArguments();
        customerChanges();
        postings();
        disputes();
        numbers();
        begin("full", Books::full);
        customerChanges();
        numbers();
        dayArguments();
        begin("last day", Books::onTheLastDay);
        customerChanges();
        numbers();
        lastDay();
        Check.end("RangesTest");
    }

    private static void begin(String name, Supplier<ReceivablesBook> made) {
        sceneName = name;
        scene = made;
        undisturbedFuture = Books.future(made.get());
    }

    private static void range(String what, int least, int greatest, String below, String above, IntCall call) {
        String where = what + " in the book '" + sceneName + "', ";
        if (least <= greatest) {
            Check.equal(where + least, NOTHING, answerTo(scene.get(), call, least));
            Check.equal(where + greatest, NOTHING, answerTo(scene.get(), call, greatest));
        }
        TreeSet<Integer> tooSmall = new TreeSet<>();
        tooSmall.add(Integer.MIN_VALUE);
        tooSmall.add(least - 1);
        for (int value : tooSmall) {
            refused(where + value, below, call, value);
        }
        TreeSet<Integer> tooGreat = new TreeSet<>();
        tooGreat.add(greatest + 1);
        tooGreat.add(greatest + 2);
        tooGreat.add(Integer.MAX_VALUE);
        for (int value : tooGreat) {
            refused(where + value, above, call, value);
        }
    }

    private static void refused(String where, String due, IntCall call, int value) {
        ReceivablesBook b = scene.get();
        Check.equal(where, due, answerTo(b, call, value));
        Check.equal(where + " changes nothing", undisturbedFuture, Books.future(b));
    }

    private static String answerTo(ReceivablesBook b, IntCall call, int value) {
        return Check.thrownBy(() -> call.on(b, value));
    }

    private static void arguments(String what, int least, int greatest, IntCall call) {
        range(what, least, greatest, ARGUMENT, ARGUMENT, call);
    }

    private static void index(String what, int count, IntCall call) {
        range(what, 0, count - 1, INDEX, INDEX, call);
    }

    private static void customerArguments() {
        arguments("2: rule", 0, 2, (b, v) -> b.addCustomer(v, 0, 0));
        arguments("2: convention", 0, 2, (b, v) -> b.addCustomer(0, v, 0));
        arguments("2: rate", 0, 3000, (b, v) -> b.addCustomer(0, 0, v));
        arguments("37: level", 0, 4, (b, v) -> b.invoicesAt(v));
    }

    private static void customerChanges() {
        int last = scene.get().customers() - 1;
        arguments("3: rule", 0, 2, (b, v) -> b.setRule(last, v));
        arguments("4: rate", 0, 3000, (b, v) -> b.setRate(last, v));
        arguments("5: days", 0, 200, (b, v) -> b.pauseReminders(last, v));
        range("33: bucket", 0, 4, INDEX, INDEX, (b, v) -> b.ageing(last, v));
    }

    private static void dayArguments() {
        arguments("7: days", 1, 400, (b, v) -> b.passDays(v));
        arguments("8: convention", 0, 2, (b, v) -> b.countDays(v, 5, 5));
        for (int convention = 0; convention <= 2; convention++) {
            int by = convention;
            arguments("8: from, up to the last day", 0, 1460, (b, v) -> b.countDays(by, v, 1460));
            arguments("8: from, up to the day 700", 0, 700, (b, v) -> b.countDays(by, v, 700));
            arguments("8: from, up to the first day", 0, 0, (b, v) -> b.countDays(by, v, 0));
            arguments("8: to, from the first day", 0, 1460, (b, v) -> b.countDays(by, 0, v));
            arguments("8: to, from the day 700", 700, 1460, (b, v) -> b.countDays(by, 700, v));
            arguments("8: to, from the last day", 1460, 1460, (b, v) -> b.countDays(by, 1460, v));
        }
    }

    private static void postings() {
        for (int customer = 0; customer < 3; customer++) {
            int by = customer;
            arguments("9: amount", 1, 10000000, (b, v) -> b.postInvoice(by, v, 0));
            arguments("9: term", 0, 120, (b, v) -> b.postInvoice(by, 1, v));
            arguments("10: amount", 1, 10000000, (b, v) -> b.postPayment(by, v));
            arguments("18: term", 0, 120, (b, v) -> b.chargeInterest(by, v));
        }
        ReceivablesBook seen = scene.get();
        Check.isTrue("11: less is unallocated than is open", seen.unallocated(2) < seen.openOf(2));
        range("11: amount, up to what is unallocated", 1, seen.unallocated(2), ARGUMENT, STATE,
                (b, v) -> b.allocate(2, 2, v));
        IntCall allocateMuch = (b, v) -> {
            b.postPayment(2, 10000000);
            b.allocate(4, 2, v);
        };
        ReceivablesBook rich = scene.get();
        for (int amount : new int[] {1, seen.openOf(2)}) {
            Check.equal("11: amount " + amount, NOTHING, answerTo(scene.get(), allocateMuch, amount));
        }
        rich.postPayment(2, 10000000);
        for (int amount : new int[] {seen.openOf(2) + 1, 10000000, 10000001, Integer.MAX_VALUE}) {
            Check.badState("11: amount, more than is open", rich, () -> rich.allocate(4, 2, amount));
        }
    }

    private static void disputes() {
        ReceivablesBook seen = scene.get();
        int clear = seen.openOf(2) - seen.disputedOf(2);
        range("15: amount, a part is disputed", 1, clear, ARGUMENT, STATE, (b, v) -> b.dispute(2, v));
        range("15: amount, nothing is disputed", 1, seen.openOf(0), ARGUMENT, STATE, (b, v) -> b.dispute(0, v));
        range("17: granted", 0, 17, ARGUMENT, ARGUMENT, (b, v) -> b.settle(2, v));
        range("17: granted, of one cent", 0, 1, ARGUMENT, ARGUMENT, (b, v) -> b.settle(3, v));
        int sum = 0;
        for (int i : new int[] {1, 3, 4}) {
            sum += seen.openOf(i) - seen.disputedOf(i);
        }
        range("16: amount, of three invoices", 1, sum, ARGUMENT, STATE, (b, v) -> b.disputeAll(1, v));
        range("16: amount, of one invoice", 1, clear, ARGUMENT, STATE, (b, v) -> b.disputeAll(2, v));
    }

    private static void numbers() {
        ReceivablesBook seen = scene.get();
        int customers = seen.customers();
        index("3: customer", customers, (b, v) -> b.setRule(v, 0));
        index("4: customer", customers, (b, v) -> b.setRate(v, 0));
        index("5: customer", customers, (b, v) -> b.pauseReminders(v, 0));
        index("12: customer", customers, (b, v) -> b.allocateRest(v));
        index("31: customer", customers, (b, v) -> b.balance(v));
        index("33: customer", customers, (b, v) -> b.ageing(v, 0));
        index("34: customer", customers, (b, v) -> b.oldest(v));
        if (seen.invoices() < 24) {
            index("9: customer", customers, (b, v) -> b.postInvoice(v, 1, 0));
            index("10: customer", customers, (b, v) -> b.postPayment(v, 1));
            index("16: customer", customers, (b, v) -> b.disputeAll(v, 1));
            index("18: customer", customers, (b, v) -> b.chargeInterest(v, 0));
        }
        paymentNumbers(seen.payments());
        invoiceNumbers(seen.invoices());
        index("39: line", seen.ledgerLines(), (b, v) -> b.lineInvoice(v));
        index("40: line", seen.ledgerLines(), (b, v) -> b.lineAmount(v));
    }

    private static void paymentNumbers(int payments) {
        index("13: payment", payments, (b, v) -> b.release(v, 0));
        index("29: payment", payments, (b, v) -> b.allocated(v, 0));
        index("30: payment", payments, (b, v) -> b.unallocated(v));
        for (int wrong : new int[] {Integer.MIN_VALUE, -1, payments, payments + 1, Integer.MAX_VALUE}) {
            refused("11: payment " + wrong, INDEX, (b, v) -> b.allocate(v, 0, 1), wrong);
            refused("14: payment " + wrong, INDEX, (b, v) -> b.reverse(v), wrong);
        }
        for (int p = 0; p < payments; p++) {
            String due = payments == 4 && p == 3 ? STATE : NOTHING;
            Check.equal("14: payment " + p, due, answerTo(scene.get(), (b, v) -> b.reverse(v), p));
        }
    }

    private static void invoiceNumbers(int invoices) {
        index("13: invoice", invoices, (b, v) -> b.release(0, v));
        index("19: invoice", invoices, (b, v) -> b.accrued(v));
        index("20: invoice", invoices, (b, v) -> b.isInterest(v));
        index("24: invoice", invoices, (b, v) -> b.amountOf(v));
        index("25: invoice", invoices, (b, v) -> b.dueDay(v));
        index("26: invoice", invoices, (b, v) -> b.openOf(v));
        index("27: invoice", invoices, (b, v) -> b.openByLedger(v));
        index("28: invoice", invoices, (b, v) -> b.disputedOf(v));
        index("29: invoice", invoices, (b, v) -> b.allocated(0, v));
        index("32: invoice", invoices, (b, v) -> b.bucketOf(v));
        index("35: invoice", invoices, (b, v) -> b.levelOf(v));
        index("36: invoice", invoices, (b, v) -> b.daysToReminder(v));
        index("15: invoice", invoices, (b, v) -> b.dispute(v, 1));
        for (int wrong : new int[] {Integer.MIN_VALUE, -1, invoices, invoices + 1, Integer.MAX_VALUE}) {
            refused("11: invoice " + wrong, INDEX, (b, v) -> b.allocate(0, v, 1), wrong);
            refused("17: invoice " + wrong, INDEX, (b, v) -> b.settle(v, 0), wrong);
        }
    }

    /** An empty book has no customer, no invoice, no payment and no line: no number is one of theirs. */
    private static void noNumberAtAll() {
        numbers();
        index("33: customer, with a bucket that is none", 0, (b, v) -> b.ageing(v, 5));
        index("11: payment, with an invoice that is none", 0, (b, v) -> b.allocate(v, v, 1));
        index("13: payment, with an invoice that is none", 0, (b, v) -> b.release(v, v));
    }

    private static void lastDay() {
        for (int days : new int[] {1, 2, 399, 400}) {
            refused("7: on the last day, " + days, STATE, (b, v) -> b.passDays(v), days);
        }
        for (int days : new int[] {Integer.MIN_VALUE, -1, 0, 401, Integer.MAX_VALUE}) {
            refused("7: on the last day, " + days, ARGUMENT, (b, v) -> b.passDays(v), days);
        }
        arguments("9: term", 0, 120, (b, v) -> b.postInvoice(0, 1, v));
        arguments("18: term", 0, 120, (b, v) -> b.chargeInterest(1, v));
    }
}
