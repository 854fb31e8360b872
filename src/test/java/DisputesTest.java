/** Promises 15 to 17 and 28: dispute, disputeAll, settle, disputedOf. */
public final class DisputesTest {
    private static final int MIN = Integer.MIN_VALUE;
    private static final int MAX = Integer.MAX_VALUE;

    public static void main(String[] args) {
        dispute();
        disputeAll();
        settle();
        settleByCredit();
        Check.end("DisputesTest");
    }

    private static void dispute() {
        ReceivablesBook b = new ReceivablesBook();
        b.addCustomer(2, 1, 3000);
        b.postInvoice(0, 1000, 0);
        b.postPayment(0, 300);
        b.allocate(0, 0, 300);
        Check.noIndex("15: invoice -1", b, () -> b.dispute(-1, 1));
        Check.noIndex("15: invoice before amount", b, () -> b.dispute(1, 0));
        Check.badArgument("15: amount 0", b, () -> b.dispute(0, 0));
        Check.badArgument("15: amount below 0", b, () -> b.dispute(0, MIN));
        Check.badState("15: more than is clear", b, () -> b.dispute(0, 701));
        Check.badState("15: far more than is clear", b, () -> b.dispute(0, MAX));
        int lines = b.ledgerLines();
        Check.equal("15: disputed then", 100, b.dispute(0, 100));
        Check.equal("15: an amount more", 300, b.dispute(0, 200));
        Check.equal("28: disputed", 300, b.disputedOf(0));
        Check.badState("15: more than is clear now", b, () -> b.dispute(0, 401));
        Check.equal("15: all of it", 700, b.dispute(0, 400));
        Check.badState("15: nothing is clear", b, () -> b.dispute(0, 1));
        Check.equal("15: open stays", 700, b.openOf(0));
        Check.equal("15: no line", lines, b.ledgerLines());
        b.passDays(20);
        Check.equal("15: no interest on it", 0, b.accrued(0));
        Check.equal("15: no reminder", 0, b.levelOf(0));
        Check.noIndex("28: invoice -1", b, () -> b.disputedOf(-1));
        Check.noIndex("28: invoice 1", b, () -> b.disputedOf(1));
    }

    private static void disputeAll() {
        ReceivablesBook b = new ReceivablesBook();
        b.addCustomer(0, 0, 0);
        b.addCustomer(0, 0, 0);
        Check.noIndex("16: customer -1", b, () -> b.disputeAll(-1, 1));
        Check.noIndex("16: customer before amount", b, () -> b.disputeAll(2, 0));
        Check.badState("16: nothing is owed", b, () -> b.disputeAll(0, 1));
        b.postInvoice(0, 1000, 0);
        b.postInvoice(1, 9000, 0);
        b.postInvoice(0, 500, 0);
        b.postInvoice(0, 301, 0);
        Check.badArgument("16: amount 0", b, () -> b.disputeAll(0, 0));
        Check.badArgument("16: amount below 0", b, () -> b.disputeAll(0, MIN));
        Check.badState("16: more than is clear", b, () -> b.disputeAll(0, 1802));
        Check.badState("16: far more than is clear", b, () -> b.disputeAll(0, MAX));
        Check.equal("16: invoices with more disputed", 3, b.disputeAll(0, 10));
        Check.equal("16: 1000 of 1801", 5, b.disputedOf(0));
        Check.equal("16: another customer's", 0, b.disputedOf(1));
        Check.equal("16: 500 of 1801", 3, b.disputedOf(2));
        Check.equal("16: 301 of 1801", 2, b.disputedOf(3));
        Check.equal("16: one cent", 1, b.disputeAll(0, 1));
        Check.equal("16: goes to the greatest", 6, b.disputedOf(0));
        b.dispute(2, 497);
        Check.equal("16: not of one without a clear amount", 2, b.disputeAll(0, 100));
        Check.badState("16: more than is clear now", b, () -> b.disputeAll(0, 1194));
        Check.equal("16: all", 2, b.disputeAll(0, 1193));
        Check.equal("16: all is disputed", 1000, b.disputedOf(0));
        Check.equal("16: all is disputed", 301, b.disputedOf(3));
        Check.equal("16: no line", 4, b.ledgerLines());
    }

    private static void settle() {
        ReceivablesBook b = new ReceivablesBook();
        b.addCustomer(0, 0, 0);
        b.postInvoice(0, 1000, 0);
        Check.noIndex("17: invoice -1", b, () -> b.settle(-1, 0));
        Check.noIndex("17: invoice 1", b, () -> b.settle(1, -1));
        Check.badState("17: nothing is disputed", b, () -> b.settle(0, 0));
        Check.badState("17: nothing is disputed, before granted", b, () -> b.settle(0, -1));
        b.passDays(3);
        b.dispute(0, 400);
        Check.badArgument("17: granted -1", b, () -> b.settle(0, -1));
        Check.badArgument("17: granted more", b, () -> b.settle(0, 401));
        Check.badArgument("17: granted far more", b, () -> b.settle(0, MAX));
        b.passDays(5);
        Check.equal("17: open then", 750, b.settle(0, 250));
        Check.equal("17: nothing disputed then", 0, b.disputedOf(0));
        Check.equal("17: a credit's line", "0:-250", Check.ledger(b, 1));
        Check.equal("17: the wait stays", 4, b.daysToReminder(0));
        b.dispute(0, 750);
        Check.equal("17: nothing granted", 750, b.settle(0, 0));
        Check.equal("17: nothing disputed then", 0, b.disputedOf(0));
        Check.equal("17: no line", 2, b.ledgerLines());
        Check.equal("17: the amount stays", 1000, b.amountOf(0));
    }

    private static void settleByCredit() {
        ReceivablesBook b = new ReceivablesBook();
        b.addCustomer(0, 0, 0);
        b.postInvoice(0, 1000, 0);
        b.postPayment(0, 400);
        b.passDays(10);
        Check.equal("17: level before", 1, b.levelOf(0));
        b.dispute(0, 600);
        Check.equal("17: all is granted", 0, b.settle(0, 600));
        Check.equal("17: level of a credited one", 0, b.levelOf(0));
        Check.equal("17: ledger", 0, b.openByLedger(0));
        b.release(0, 0);
        Check.equal("17: the credit stays", 400, b.openOf(0));
        Check.equal("17: its wait is 0", 7, b.daysToReminder(0));
        b.postPayment(0, 1000);
        Check.equal("17: no more than is open", 600, b.unallocated(1));
    }
}
