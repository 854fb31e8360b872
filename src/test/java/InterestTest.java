/** Promises 18 to 20: chargeInterest, accrued, isInterest, and how interest accrues day by day. */
public final class InterestTest {
    public static void main(String[] args) {
        accrued();
        conventions();
        clearAmountCounts();
        greatAmounts();
        chargeInterest();
        fractionsStay();
        fullBook();
        Check.end("InterestTest");
    }

    private static ReceivablesBook bookOf(int convention, int rate, int amount, int term) {
        ReceivablesBook b = new ReceivablesBook();
        b.addCustomer(2, convention, rate);
        b.postInvoice(0, amount, term);
        return b;
    }

    private static void accrued() {
        ReceivablesBook b = bookOf(1, 1800, 200000, 3);
        Check.noIndex("19: invoice -1", b, () -> b.accrued(-1));
        Check.noIndex("19: invoice 1", b, () -> b.accrued(1));
        Check.noIndex("20: invoice -1", b, () -> b.isInterest(-1));
        Check.noIndex("20: invoice 1", b, () -> b.isInterest(1));
        b.passDays(3);
        Check.equal("19: nothing up to the due day", 0, b.accrued(0));
        b.passDays(1);
        Check.equal("19: from the due day on", 100, b.accrued(0));
        b.passDays(9);
        Check.equal("19: ten days", 1000, b.accrued(0));
        ReceivablesBook down = bookOf(0, 3000, 1216, 0);
        down.passDays(1);
        Check.equal("19: 0.99945 cents", 0, down.accrued(0));
        down.passDays(1);
        Check.equal("19: 1.9989 cents", 1, down.accrued(0));
    }

    private static void conventions() {
        int[][] due = {{0, 8219, 484931}, {1, 8333, 491666}, {2, 8333, 500000}};
        for (int[] one : due) {
            ReceivablesBook b = bookOf(one[0], 3000, 10000000, 0);
            b.passDays(1);
            Check.equal("19: a day by " + one[0], one[1], b.accrued(0));
            b.passDays(58);
            Check.equal("19: up to March 1 by " + one[0], one[2], b.accrued(0));
        }
        ReceivablesBook leap = bookOf(2, 3000, 1200000, 0);
        leap.passDays(400);
        leap.passDays(400);
        leap.passDays(353);
        leap.setRate(0, 0);
        int before = leap.accrued(0);
        leap.setRate(0, 3000);
        leap.passDays(1);
        Check.equal("19: February 28 to 29, 2004", before + 1000, leap.accrued(0));
        leap.passDays(1);
        Check.equal("19: February 29 to March 1, 2004", before + 3000, leap.accrued(0));
    }

    private static void clearAmountCounts() {
        ReceivablesBook b = bookOf(1, 1800, 200000, 0);
        b.postPayment(0, 150000);
        b.dispute(0, 100000);
        b.passDays(1);
        Check.equal("19: without the disputed part", 50, b.accrued(0));
        b.allocate(0, 0, 60000);
        b.passDays(1);
        Check.equal("19: without what is paid", 70, b.accrued(0));
        b.settle(0, 40000);
        b.passDays(1);
        Check.equal("19: without what is credited", 120, b.accrued(0));
        b.allocate(0, 0, 90000);
        b.passDays(1);
        Check.equal("19: what has accrued stays", 125, b.accrued(0));
        b.reverse(0);
        b.passDays(1);
        Check.equal("19: open again", 205, b.accrued(0));
    }

    private static void greatAmounts() {
        ReceivablesBook b = bookOf(1, 3000, 10000000, 0);
        b.passDays(400);
        b.passDays(400);
        b.passDays(400);
        b.passDays(260);
        Check.equal("19: all days", 12166666, b.accrued(0));
        Check.equal("18: an interest invoice above 10000000", 1, b.chargeInterest(0, 0));
        Check.equal("18: its amount", 12166666, b.amountOf(1));
    }

    private static void chargeInterest() {
        ReceivablesBook b = new ReceivablesBook();
        b.addCustomer(0, 1, 1800);
        b.addCustomer(0, 1, 1800);
        Check.noIndex("18: customer -1", b, () -> b.chargeInterest(-1, 0));
        Check.noIndex("18: customer before term", b, () -> b.chargeInterest(2, 121));
        Check.badArgument("18: term -1", b, () -> b.chargeInterest(0, -1));
        Check.badArgument("18: term 121", b, () -> b.chargeInterest(0, 121));
        Check.equal("18: nothing at all", -1, b.chargeInterest(0, 0));
        b.postInvoice(0, 200000, 0);
        b.postInvoice(1, 200000, 0);
        b.postInvoice(0, 400000, 5);
        Check.equal("18: nothing yet", -1, b.chargeInterest(0, 0));
        Check.equal("18: no invoice is posted", 3, b.invoices());
        b.passDays(10);
        b.postPayment(0, 200000);
        Check.badArgument("18: term 121 with interest", b, () -> b.chargeInterest(0, 121));
        int lines = b.ledgerLines();
        Check.equal("18: number", 3, b.chargeInterest(0, 120));
        Check.equal("18: ledger", "3:2000", Check.ledger(b, lines));
        Check.equal("18: a paid invoice's, too", 2000, b.amountOf(3));
        Check.equal("18: due day", 130, b.dueDay(3));
        Check.isTrue("20: an interest invoice", b.isInterest(3));
        Check.isTrue("20: no interest invoice", !b.isInterest(0));
        Check.equal("18: taken off", 0, b.accrued(0));
        Check.equal("18: taken off", 0, b.accrued(2));
        Check.equal("18: another customer's stays", 1000, b.accrued(1));
        Check.equal("18: nothing left to charge", -1, b.chargeInterest(0, 0));
        b.passDays(150);
        Check.equal("19: none on an interest invoice", 0, b.accrued(3));
        Check.equal("18: reminded like others", 2, b.levelOf(3));
        b.postPayment(0, 500000);
        Check.equal("18: paid like others", 0, b.openOf(3));
        Check.equal("18: next one", 4, b.chargeInterest(1, 0));
        Check.equal("18: its amount", 16000, b.amountOf(4));
        Check.equal("18: due today", 160, b.dueDay(4));
    }

    private static void fractionsStay() {
        ReceivablesBook b = bookOf(1, 1800, 3000, 0);
        b.postInvoice(0, 3000, 0);
        b.passDays(1);
        Check.equal("18: 1.5 cents twice are 1 and 1", 2, b.chargeInterest(0, 0));
        Check.equal("18: the sum", 2, b.amountOf(2));
        b.passDays(1);
        Check.equal("18: halves have stayed", 2, b.accrued(0));
        b.chargeInterest(0, 0);
        Check.equal("18: the sum", 4, b.amountOf(3));
        b.setRate(0, 600);
        b.passDays(1);
        Check.equal("18: half a cent is not charged", -1, b.chargeInterest(0, 0));
        b.passDays(1);
        Check.equal("18: it has stayed", 1, b.accrued(1));
    }

    private static void fullBook() {
        ReceivablesBook b = new ReceivablesBook();
        b.addCustomer(0, 1, 1800);
        b.addCustomer(0, 1, 0);
        for (int i = 0; i < 24; i++) {
            b.postInvoice(i % 2, 200000, 0);
        }
        Check.equal("18: no interest and no room", -1, b.chargeInterest(0, 0));
        b.passDays(1);
        Check.badState("18: interest and no room", b, () -> b.chargeInterest(0, 0));
        Check.badArgument("18: term before room", b, () -> b.chargeInterest(0, 121));
        Check.equal("18: none is accrued", -1, b.chargeInterest(1, 0));
        Check.equal("18: it is still accrued", 100, b.accrued(0));
    }
}
