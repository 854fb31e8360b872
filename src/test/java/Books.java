import java.util.function.IntSupplier;

/** Books in which the tests of edges and of refused calls begin, and what becomes of a book later. */
final class Books {
    static final int DAY = 1460;

    private Books() {
    }

    static ReceivablesBook empty() {
        return new ReceivablesBook();
    }

    /**
     * Three customers; invoices that are part paid, disputed, paid, charged with interest and not due
     * yet, of more than one level; payments that are spent, unspent, part spent and reversed.
     */
    static ReceivablesBook mixed() {
        ReceivablesBook b = new ReceivablesBook();
        b.addCustomer(0, 0, 1234);
        b.addCustomer(1, 1, 2999);
        b.addCustomer(2, 2, 1);
        b.postInvoice(0, 123457, 0);
        b.postInvoice(1, 7001, 3);
        b.postInvoice(2, 10000000, 1);
        b.postInvoice(1, 99, 3);
        b.passDays(12);
        b.postInvoice(1, 500, 120);
        b.postPayment(0, 23457);
        b.postPayment(1, 300);
        b.postPayment(2, 9000);
        b.postPayment(1, 40);
        b.reverse(3);
        b.allocate(2, 2, 4000);
        b.dispute(2, 17);
        b.dispute(3, 1);
        b.passDays(10);
        b.chargeInterest(0, 5);
        b.pauseReminders(1, 9);
        b.passDays(3);
        return b;
    }

    /** The greatest number of customers, invoices and payments; each customer has some of each. */
    static ReceivablesBook full() {
        ReceivablesBook b = new ReceivablesBook();
        for (int c = 0; c < 6; c++) {
            b.addCustomer(c % 3, c % 3, 500 * (c + 1));
        }
        for (int i = 0; i < 24; i++) {
            b.postInvoice(i % 6, 1000000 + 1111 * i, i);
        }
        b.passDays(15);
        for (int p = 0; p < 24; p++) {
            b.postPayment(p % 6, 1000 + 77 * p);
        }
        b.dispute(23, 5);
        return b;
    }

    /** As mixed, on the last day. */
    static ReceivablesBook onTheLastDay() {
        ReceivablesBook b = mixed();
        passUpTo(b, DAY);
        return b;
    }

    static void passUpTo(ReceivablesBook b, int day) {
        while (b.today() < day) {
            b.passDays(Math.min(400, day - b.today()));
        }
    }

    /**
     * What the book answers to calls that bring out what no question tells: rules, rates, waits of
     * disputed invoices, ends of pauses, fractions of a cent. (It asks more than 512 questions; the
     * class counts no calls, so they tell as much as the first ones.)
     */
    static String future(ReceivablesBook b) {
        StringBuilder s = new StringBuilder(Check.picture(b));
        for (int c = 0; c < b.customers(); c++) {
            s.append("\nrule ").append(b.setRule(c, 1)).append(", rate ").append(b.setRate(c, 3000));
        }
        for (int i = 0; i < b.invoices(); i++) {
            if (b.disputedOf(i) > 0) {
                s.append("\nsettled ").append(b.settle(i, 0));
            }
        }
        for (int day = 0; day < 24 && b.today() < DAY; day++) {
            b.passDays(1);
            s.append("\nday ").append(b.today());
            for (int i = 0; i < b.invoices(); i++) {
                s.append(' ').append(b.accrued(i)).append('/').append(b.levelOf(i));
                s.append('/').append(b.daysToReminder(i));
            }
        }
        for (int c = 0; c < b.customers(); c++) {
            int customer = c;
            s.append("\nrest ").append(b.allocateRest(c));
            s.append(", interest ").append(answer(() -> b.chargeInterest(customer, 0)));
            s.append(", invoice ").append(answer(() -> b.postInvoice(customer, 3, 0)));
            s.append(", payment ").append(answer(() -> b.postPayment(customer, 5)));
        }
        s.append(", customer ").append(answer(() -> b.addCustomer(0, 0, 0)));
        return s.append('\n').append(Check.picture(b)).toString();
    }

    private static String answer(IntSupplier call) {
        try {
            return "" + call.getAsInt();
        } catch (RuntimeException e) {
            return Check.nameOf(e);
        }
    }
}
