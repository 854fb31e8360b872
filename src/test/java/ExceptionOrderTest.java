import java.util.function.Consumer;
import java.util.function.Supplier;

/**
 * Of several exceptions that apply, the first one of the throws clause; each pair and each triple
 * that can come together has a row. A refused call changes nothing, then or later.
 */
public final class ExceptionOrderTest {
    private static final String INDEX = "IndexOutOfBoundsException";
    private static final String ARGUMENT = "IllegalArgumentException";
    private static final String STATE = "IllegalStateException";
    private static final int MIN = Integer.MIN_VALUE;
    private static final int MAX = Integer.MAX_VALUE;

    public static void main(String[] args) {
        customers();
        days();
        postings();
        allocations();
        disputes();
        interest();
        questions();
        Check.end("ExceptionOrderTest");
    }

    private static void refused(String what, Supplier<ReceivablesBook> scene, String due,
            Consumer<ReceivablesBook> call) {
        ReceivablesBook b = scene.get();
        Check.equal(what, due, Check.thrownBy(() -> call.accept(b)));
        Check.equal(what + " changes nothing", Books.future(scene.get()), Books.future(b));
    }

    private static void customers() {
        Supplier<ReceivablesBook> full = Books::full;
        refused("2: no room", full, STATE, b -> b.addCustomer(0, 0, 0));
        refused("2: no room, with the greatest arguments", full, STATE, b -> b.addCustomer(2, 2, 3000));
        for (int wrong : new int[] {MIN, -1, 3, MAX}) {
            refused("2: rule " + wrong + " and no room", full, ARGUMENT, b -> b.addCustomer(wrong, 0, 0));
            refused("2: convention " + wrong + " and no room", full, ARGUMENT, b -> b.addCustomer(0, wrong, 0));
        }
        for (int wrong : new int[] {MIN, -1, 3001, MAX}) {
            refused("2: rate " + wrong + " and no room", full, ARGUMENT, b -> b.addCustomer(0, 0, wrong));
        }
        refused("2: all three wrong and no room", full, ARGUMENT, b -> b.addCustomer(3, 3, 3001));
        for (int wrong : new int[] {MIN, -1, 6, MAX}) {
            refused("3: no customer and no rule", full, INDEX, b -> b.setRule(wrong, 3));
            refused("4: no customer and no rate", full, INDEX, b -> b.setRate(wrong, 3001));
            refused("5: no customer and no days", full, INDEX, b -> b.pauseReminders(wrong, 201));
        }
    }

    private static void days() {
        Supplier<ReceivablesBook> last = Books::onTheLastDay;
        refused("7: 401 days, and later than the last day", last, ARGUMENT, b -> b.passDays(401));
        refused("7: the most days of all", last, ARGUMENT, b -> b.passDays(MAX));
        refused("7: 400 days, and later than the last day", last, STATE, b -> b.passDays(400));
        refused("8: all three wrong", last, ARGUMENT, b -> b.countDays(3, 1461, -1));
    }

    private static void postings() {
        Supplier<ReceivablesBook> full = Books::full;
        refused("9: no room", full, STATE, b -> b.postInvoice(5, 10000000, 120));
        refused("9: no customer and no room", full, INDEX, b -> b.postInvoice(6, 1, 0));
        refused("9: amount and no room", full, ARGUMENT, b -> b.postInvoice(0, 0, 0));
        refused("9: too great an amount and no room", full, ARGUMENT, b -> b.postInvoice(0, 10000001, 0));
        refused("9: term and no room", full, ARGUMENT, b -> b.postInvoice(0, 1, 121));
        refused("9: a term below 0 and no room", full, ARGUMENT, b -> b.postInvoice(0, 1, -1));
        refused("9: no customer, amount, term and no room", full, INDEX, b -> b.postInvoice(-1, 0, -1));
        refused("9: no customer and amount", Books::empty, INDEX, b -> b.postInvoice(0, 0, 0));
        refused("9: no customer and term", Books::empty, INDEX, b -> b.postInvoice(0, 1, 121));
        refused("10: no room", full, STATE, b -> b.postPayment(5, 10000000));
        refused("10: no customer and no room", full, INDEX, b -> b.postPayment(6, 1));
        refused("10: amount and no room", full, ARGUMENT, b -> b.postPayment(0, 0));
        refused("10: too great an amount and no room", full, ARGUMENT, b -> b.postPayment(0, 10000001));
        refused("10: no customer, amount and no room", full, INDEX, b -> b.postPayment(-1, MIN));
        refused("10: no customer and amount", Books::empty, INDEX, b -> b.postPayment(0, 10000001));
    }

    private static void allocations() {
        Supplier<ReceivablesBook> mixed = Books::mixed;
        refused("11: no payment and amount 0", mixed, INDEX, b -> b.allocate(4, 2, 0));
        refused("11: no payment and amount below 0", mixed, INDEX, b -> b.allocate(-1, 2, MIN));
        refused("11: no invoice and amount 0", mixed, INDEX, b -> b.allocate(2, 6, 0));
        refused("11: no invoice and amount too great", mixed, INDEX, b -> b.allocate(2, -1, MAX));
        refused("11: no payment, no invoice, amount 0", mixed, INDEX, b -> b.allocate(4, 6, 0));
        refused("11: another customer's and amount 0", mixed, ARGUMENT, b -> b.allocate(2, 0, 0));
        refused("11: another customer's and amount below 0", mixed, ARGUMENT, b -> b.allocate(2, 0, -1));
        refused("11: nothing unallocated and amount 0", mixed, ARGUMENT, b -> b.allocate(0, 0, 0));
        refused("11: reversed and amount 0", mixed, ARGUMENT, b -> b.allocate(3, 1, 0));
        refused("11: another customer's, and more than all", mixed, STATE, b -> b.allocate(2, 0, MAX));
        refused("11: another customer's, a cent", mixed, STATE, b -> b.allocate(2, 1, 1));
        refused("11: nothing unallocated, a cent", mixed, STATE, b -> b.allocate(0, 0, 1));
        refused("11: reversed, a cent", mixed, STATE, b -> b.allocate(3, 1, 1));
        Supplier<ReceivablesBook> paid = ExceptionOrderTest::paidInvoice;
        refused("11: nothing open, a cent", paid, STATE, b -> b.allocate(1, 0, 1));
        refused("11: nothing open, amount 0", paid, ARGUMENT, b -> b.allocate(1, 0, 0));
        refused("13: no payment, an invoice", mixed, INDEX, b -> b.release(4, 0));
        refused("13: a payment, no invoice", mixed, INDEX, b -> b.release(0, 6));
        refused("13: a reversed payment, no invoice", mixed, INDEX, b -> b.release(3, 6));
        refused("13: neither", mixed, INDEX, b -> b.release(MIN, MAX));
        refused("14: reversed", mixed, STATE, b -> b.reverse(3));
        refused("14: no payment", mixed, INDEX, b -> b.reverse(4));
    }

    private static ReceivablesBook paidInvoice() {
        ReceivablesBook b = new ReceivablesBook();
        b.addCustomer(0, 0, 0);
        b.postInvoice(0, 70, 0);
        b.postPayment(0, 70);
        b.postPayment(0, 9);
        return b;
    }

    private static void disputes() {
        Supplier<ReceivablesBook> mixed = Books::mixed;
        refused("15: no invoice and amount 0", mixed, INDEX, b -> b.dispute(6, 0));
        refused("15: no invoice and amount too great", mixed, INDEX, b -> b.dispute(-1, MAX));
        refused("15: nothing clear and amount 0", ExceptionOrderTest::paidInvoice, ARGUMENT, b -> b.dispute(0, 0));
        refused("15: nothing clear and a cent", ExceptionOrderTest::paidInvoice, STATE, b -> b.dispute(0, 1));
        refused("16: no customer and amount 0", mixed, INDEX, b -> b.disputeAll(3, 0));
        refused("16: no customer and amount too great", mixed, INDEX, b -> b.disputeAll(-1, MAX));
        refused("16: nothing clear and amount 0", ExceptionOrderTest::paidInvoice, ARGUMENT, b -> b.disputeAll(0, 0));
        refused("16: nothing clear and a cent", ExceptionOrderTest::paidInvoice, STATE, b -> b.disputeAll(0, 1));
        refused("17: no invoice and granted below 0", mixed, INDEX, b -> b.settle(6, -1));
        refused("17: no invoice and granted too great", mixed, INDEX, b -> b.settle(-1, MAX));
        for (int granted : new int[] {MIN, -1, 0, 1, MAX}) {
            refused("17: nothing disputed, granted " + granted, mixed, STATE, b -> b.settle(0, granted));
        }
        for (int granted : new int[] {MIN, -1, 18, MAX}) {
            refused("17: 17 disputed, granted " + granted, mixed, ARGUMENT, b -> b.settle(2, granted));
        }
    }

    private static void interest() {
        Supplier<ReceivablesBook> full = Books::full;
        refused("18: interest and no room", full, STATE, b -> b.chargeInterest(0, 0));
        refused("18: interest, no room, the greatest term", full, STATE, b -> b.chargeInterest(0, 120));
        refused("18: term below 0, interest and no room", full, ARGUMENT, b -> b.chargeInterest(0, -1));
        refused("18: term too great, interest and no room", full, ARGUMENT, b -> b.chargeInterest(0, 121));
        refused("18: no customer, interest and no room", full, INDEX, b -> b.chargeInterest(6, 0));
        refused("18: no customer, term, interest, no room", full, INDEX, b -> b.chargeInterest(-1, MAX));
        refused("18: no customer and term", Books::empty, INDEX, b -> b.chargeInterest(0, 121));
        refused("18: term and no interest", ExceptionOrderTest::paidInvoice, ARGUMENT, b -> b.chargeInterest(0, 121));
    }

    private static void questions() {
        Supplier<ReceivablesBook> mixed = Books::mixed;
        refused("29: no payment, an invoice", mixed, INDEX, b -> b.allocated(4, 0));
        refused("29: a payment, no invoice", mixed, INDEX, b -> b.allocated(0, 6));
        refused("29: neither", mixed, INDEX, b -> b.allocated(MAX, MIN));
        refused("33: no customer, a bucket", mixed, INDEX, b -> b.ageing(3, 0));
        refused("33: a customer, no bucket", mixed, INDEX, b -> b.ageing(0, 5));
        refused("33: neither", mixed, INDEX, b -> b.ageing(MIN, MAX));
    }
}
