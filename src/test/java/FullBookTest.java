/** The empty book, and the book that has 6 customers, 24 invoices or 24 payments: the last that fits, the first that does not. */
public final class FullBookTest {
    public static void main(String[] args) {
        emptyBook();
        customerWithNothing();
        sixCustomers();
        twentyFourInvoices();
        interestInvoicesTakeRoom();
        lastRoomForInterest();
        twentyFourPayments();
        fullBookGoesOn();
        longestRun();
        Check.end("FullBookTest");
    }

    private static void emptyBook() {
        ReceivablesBook b = new ReceivablesBook();
        Check.equal("1: nothing at all", "day 0 0 0 0 0 0\nl", Check.picture(b));
        Check.equal("21: no customers", 0, b.customers());
        Check.equal("22: no invoices", 0, b.invoices());
        Check.equal("23: no payments", 0, b.payments());
        Check.equal("38: no lines", 0, b.ledgerLines());
        Check.equal("7: days pass in an empty book", 400, b.passDays(400));
        Check.equal("8: days are counted in an empty book", 1439, b.countDays(2, 0, 1460));
        Books.passUpTo(b, 1460);
        Check.equal("7: up to the last day", "day 1460 0 0 0 0 0\nl", Check.picture(b));
        Check.equal("2: a customer on the last day", 0, b.addCustomer(0, 0, 0));
    }

    private static void customerWithNothing() {
        for (int rule = 0; rule <= 2; rule++) {
            ReceivablesBook b = new ReceivablesBook();
            b.addCustomer(rule, 0, 3000);
            Check.equal("12: no payment", 0, b.allocateRest(0));
            Check.equal("18: no invoice", -1, b.chargeInterest(0, 120));
            Check.equal("31: owes nothing", 0, b.balance(0));
            Check.equal("34: no invoice", -1, b.oldest(0));
            for (int bucket = 0; bucket <= 4; bucket++) {
                Check.equal("33: bucket " + bucket, 0, b.ageing(0, bucket));
            }
            Check.badState("16: not a cent to dispute", b, () -> b.disputeAll(0, 1));
            Check.equal("10: a payment without an invoice", 0, b.postPayment(0, 10000000));
            Check.equal("10: all of it is unallocated", 10000000, b.unallocated(0));
            Check.equal("12: no invoice", 0, b.allocateRest(0));
            Check.equal("31: in the customer's favour", -10000000, b.balance(0));
            Check.noIndex("13: no invoice to release from", b, () -> b.release(0, 0));
            Check.equal("14: nothing was allocated", 0, b.reverse(0));
            Check.equal("31: owes nothing again", 0, b.balance(0));
            Check.equal("38: no line", 0, b.ledgerLines());
        }
    }

    private static void sixCustomers() {
        ReceivablesBook b = new ReceivablesBook();
        for (int c = 0; c < 6; c++) {
            Check.equal("2: numbers from 0", c, b.addCustomer(2 - c % 3, c % 3, c * 600));
        }
        Check.equal("21: six", 6, b.customers());
        Check.badState("2: a seventh", b, () -> b.addCustomer(0, 0, 0));
        for (int c = 0; c < 6; c++) {
            Check.equal("3: the rule of each", 2 - c % 3, b.setRule(c, 0));
            Check.equal("4: the rate of each", c * 600, b.setRate(c, 0));
        }
        Check.equal("9: an invoice of the last", 0, b.postInvoice(5, 40, 0));
        Check.equal("31: the last owes it", 40, b.balance(5));
        Check.equal("31: the one before does not", 0, b.balance(4));
        Check.equal("10: a payment of the last", 0, b.postPayment(5, 40));
        Check.equal("26: it is paid", 0, b.openOf(0));
    }

    private static void twentyFourInvoices() {
        ReceivablesBook b = new ReceivablesBook();
        b.addCustomer(0, 0, 0);
        for (int i = 0; i < 24; i++) {
            Check.equal("9: numbers from 0", i, b.postInvoice(0, 24 - i, 120 - i));
            Check.equal("38: a line each", i + 1, b.ledgerLines());
        }
        Check.badState("9: a 25th", b, () -> b.postInvoice(0, 1, 0));
        b.postPayment(0, 300);
        Check.equal("26: all are paid", 0, b.balance(0));
        Check.equal("22: paid ones included", 24, b.invoices());
        Check.badState("9: a paid one leaves no room", b, () -> b.postInvoice(0, 1, 0));
        Check.equal("39: the last line", 23, b.lineInvoice(47));
        Check.equal("40: the last line", -1, b.lineAmount(47));
    }

    private static void interestInvoicesTakeRoom() {
        ReceivablesBook b = new ReceivablesBook();
        b.addCustomer(0, 1, 3000);
        b.postInvoice(0, 1200, 0);
        for (int i = 1; i < 24; i++) {
            b.passDays(1);
            Check.equal("18: an interest invoice of a cent", i, b.chargeInterest(0, 0));
            Check.equal("24: a cent", 1, b.amountOf(i));
        }
        Check.equal("22: interest invoices included", 24, b.invoices());
        Check.badState("9: no room beside them", b, () -> b.postInvoice(0, 1, 0));
        Check.equal("18: no room, but no interest", -1, b.chargeInterest(0, 0));
        b.passDays(1);
        Check.badState("18: no room for a cent", b, () -> b.chargeInterest(0, 0));
        Check.equal("19: it stays accrued", 1, b.accrued(0));
        b.passDays(1);
        Check.equal("19: more is added", 2, b.accrued(0));
    }

    private static void lastRoomForInterest() {
        ReceivablesBook b = new ReceivablesBook();
        b.addCustomer(0, 1, 3000);
        for (int i = 0; i < 23; i++) {
            b.postInvoice(0, 1200, 0);
        }
        b.passDays(1);
        Check.equal("18: the 24th", 23, b.chargeInterest(0, 120));
        Check.equal("18: a cent of each", 23, b.amountOf(23));
        Check.equal("18: due later", 121, b.dueDay(23));
        Check.isTrue("20: the last one", b.isInterest(23));
        Check.isTrue("20: the last one but one", !b.isInterest(22));
    }

    private static void twentyFourPayments() {
        for (int rule = 0; rule <= 2; rule++) {
            ReceivablesBook b = new ReceivablesBook();
            b.addCustomer(rule, 0, 0);
            b.addCustomer(rule, 0, 0);
            b.postInvoice(1, 1000, 0);
            for (int p = 0; p < 24; p++) {
                Check.equal("10: numbers from 0", p, b.postPayment(p % 2, p + 1));
            }
            Check.equal("23: 24", 24, b.payments());
            Check.badState("10: a 25th", b, () -> b.postPayment(1, 1));
            for (int p = 0; p < 24; p++) {
                b.reverse(p);
            }
            Check.equal("23: reversed ones included", 24, b.payments());
            Check.badState("10: a reversed one leaves no room", b, () -> b.postPayment(1, 1));
            Check.equal("26: nothing is paid", 1000, b.openOf(0));
        }
    }

    private static void fullBookGoesOn() {
        ReceivablesBook b = Books.full();
        Check.equal("21: customers", 6, b.customers());
        Check.equal("22: invoices", 24, b.invoices());
        Check.equal("23: payments", 24, b.payments());
        Check.equal("29: the last payment, the last invoice", 0, b.allocated(23, 23));
        int open = b.openOf(23);
        Check.equal("11: the last of both", open - 2771, b.allocate(23, 23, 2771));
        Check.equal("30: all of it", 0, b.unallocated(23));
        Check.equal("13: the last of both", 2771, b.release(23, 23));
        Check.equal("14: the last", 0, b.reverse(23));
        Check.equal("15: the last", 6, b.dispute(23, 1));
        Check.equal("17: the last", open - 6, b.settle(23, 6));
        Check.equal("12: by choice", 0, b.allocateRest(5));
        b.setRule(5, 1);
        Check.equal("12: what is left of three payments", 1385 + 1847 + 2309, b.allocateRest(5));
    }

    /** An object is used for 512 calls: the last of them is answered like the first. */
    private static void longestRun() {
        ReceivablesBook b = new ReceivablesBook();
        b.addCustomer(0, 0, 0);
        b.postInvoice(0, 10000000, 0);
        b.postPayment(0, 255);
        for (int i = 0; i < 254; i++) {
            Check.equal("13: a cycle", 255 - i, b.release(0, 0));
            Check.equal("11: a cycle", 10000000 - 254 + i, b.allocate(0, 0, 254 - i));
        }
        Check.equal("27: the 512th call", 9999999, b.openByLedger(0));
    }
}
