/** Promises 22 to 30: invoices, payments, amountOf, dueDay, openOf, openByLedger, allocated, unallocated. */
public final class InvoicesAndPaymentsTest {
    public static void main(String[] args) {
        counts();
        ofAnInvoice();
        ofAPayment();
        noSuchNumber();
        Check.end("InvoicesAndPaymentsTest");
    }

    private static ReceivablesBook book() {
        ReceivablesBook b = new ReceivablesBook();
        b.addCustomer(0, 1, 1800);
        b.addCustomer(2, 0, 0);
        b.passDays(7);
        b.postInvoice(0, 500, 4);
        b.postInvoice(1, 300, 0);
        b.postPayment(0, 120);
        b.postPayment(1, 900);
        b.allocate(1, 1, 300);
        return b;
    }

    private static void counts() {
        ReceivablesBook b = book();
        Check.equal("22: paid ones included", 2, b.invoices());
        Check.equal("23: payments", 2, b.payments());
        b.reverse(0);
        Check.equal("23: reversed ones included", 2, b.payments());
        b.postInvoice(0, 2000000, 0);
        b.passDays(1);
        b.chargeInterest(0, 0);
        Check.equal("22: interest invoices included", 4, b.invoices());
    }

    private static void ofAnInvoice() {
        ReceivablesBook b = book();
        Check.equal("24: amount", 500, b.amountOf(0));
        Check.equal("24: amount of a paid one", 300, b.amountOf(1));
        Check.equal("25: due day", 11, b.dueDay(0));
        Check.equal("25: due day", 7, b.dueDay(1));
        Check.equal("26: open", 380, b.openOf(0));
        Check.equal("26: paid", 0, b.openOf(1));
        Check.equal("27: open by the ledger", 380, b.openByLedger(0));
        Check.equal("27: paid by the ledger", 0, b.openByLedger(1));
        b.dispute(0, 80);
        Check.equal("26: the disputed part is open", 380, b.openOf(0));
        b.settle(0, 50);
        Check.equal("26: without the credit", 330, b.openOf(0));
        Check.equal("27: without the credit", 330, b.openByLedger(0));
        b.release(0, 0);
        Check.equal("26: without allocations", 450, b.openOf(0));
        Check.equal("27: without allocations", 450, b.openByLedger(0));
    }

    private static void ofAPayment() {
        ReceivablesBook b = book();
        Check.equal("29: allocated", 120, b.allocated(0, 0));
        Check.equal("29: not to this one", 0, b.allocated(0, 1));
        Check.equal("29: allocated", 300, b.allocated(1, 1));
        Check.equal("30: unallocated", 0, b.unallocated(0));
        Check.equal("30: unallocated", 600, b.unallocated(1));
        b.release(1, 1);
        Check.equal("29: released", 0, b.allocated(1, 1));
        Check.equal("30: released", 900, b.unallocated(1));
        b.reverse(1);
        Check.equal("30: reversed", 0, b.unallocated(1));
        b.reverse(0);
        Check.equal("29: reversed", 0, b.allocated(0, 0));
    }

    private static void noSuchNumber() {
        ReceivablesBook b = book();
        for (int wrong : new int[] {Integer.MIN_VALUE, -1, 2, 24, Integer.MAX_VALUE}) {
            Check.noIndex("24: invoice " + wrong, b, () -> b.amountOf(wrong));
            Check.noIndex("25: invoice " + wrong, b, () -> b.dueDay(wrong));
            Check.noIndex("26: invoice " + wrong, b, () -> b.openOf(wrong));
            Check.noIndex("27: invoice " + wrong, b, () -> b.openByLedger(wrong));
            Check.noIndex("28: invoice " + wrong, b, () -> b.disputedOf(wrong));
            Check.noIndex("29: payment " + wrong, b, () -> b.allocated(wrong, 0));
            Check.noIndex("29: invoice " + wrong, b, () -> b.allocated(0, wrong));
            Check.noIndex("30: payment " + wrong, b, () -> b.unallocated(wrong));
        }
    }
}
