/** Promises 31 to 34: balance, bucketOf, ageing, oldest. */
public final class OwingTest {
    public static void main(String[] args) {
        balance();
        buckets();
        ageing();
        oldest();
        Check.end("OwingTest");
    }

    private static void balance() {
        ReceivablesBook b = new ReceivablesBook();
        Check.noIndex("31: no customer yet", b, () -> b.balance(0));
        b.addCustomer(2, 0, 0);
        b.addCustomer(0, 0, 0);
        Check.noIndex("31: customer -1", b, () -> b.balance(-1));
        Check.noIndex("31: customer 2", b, () -> b.balance(2));
        Check.equal("31: nothing", 0, b.balance(0));
        b.postInvoice(0, 500, 0);
        b.postInvoice(1, 70, 0);
        Check.equal("31: open", 500, b.balance(0));
        b.postPayment(0, 800);
        Check.equal("31: in the customer's favour", -300, b.balance(0));
        b.allocate(0, 0, 200);
        Check.equal("31: allocated or not", -300, b.balance(0));
        b.dispute(0, 100);
        Check.equal("31: disputed or not", -300, b.balance(0));
        b.settle(0, 60);
        Check.equal("31: credited", -360, b.balance(0));
        b.reverse(0);
        Check.equal("31: reversed", 440, b.balance(0));
        Check.equal("31: another customer", 70, b.balance(1));
        for (int i = 0; i < 22; i++) {
            b.postInvoice(0, 10000000, 0);
        }
        Check.equal("31: great amounts", 220000440, b.balance(0));
    }

    private static void buckets() {
        ReceivablesBook b = new ReceivablesBook();
        Check.noIndex("32: no invoice yet", b, () -> b.bucketOf(0));
        b.addCustomer(0, 0, 0);
        b.postInvoice(0, 100, 5);
        b.postPayment(0, 100);
        Check.noIndex("32: invoice -1", b, () -> b.bucketOf(-1));
        Check.noIndex("32: invoice 1", b, () -> b.bucketOf(1));
        int[] days = {0, 5, 6, 35, 36, 65, 66, 95, 96, 400};
        int[] due = {0, 0, 1, 1, 2, 2, 3, 3, 4, 4};
        for (int i = 0; i < days.length; i++) {
            if (days[i] > b.today()) {
                b.passDays(days[i] - b.today());
            }
            Check.equal("32: bucket on the day " + days[i], due[i], b.bucketOf(0));
        }
    }

    private static void ageing() {
        ReceivablesBook b = new ReceivablesBook();
        b.addCustomer(2, 0, 0);
        b.addCustomer(2, 0, 0);
        b.postInvoice(0, 1, 0);
        b.passDays(30);
        b.postInvoice(0, 20, 0);
        b.postInvoice(0, 30, 0);
        b.postInvoice(1, 7, 0);
        b.passDays(30);
        b.postInvoice(0, 400, 0);
        b.passDays(30);
        b.postInvoice(0, 5000, 0);
        b.passDays(30);
        b.postInvoice(0, 60000, 0);
        int[] due = {60000, 5000, 400, 50, 1};
        for (int bucket = 0; bucket <= 4; bucket++) {
            Check.equal("33: bucket " + bucket, due[bucket], b.ageing(0, bucket));
        }
        Check.equal("33: another customer", 7, b.ageing(1, 3));
        Check.equal("33: empty", 0, b.ageing(1, 4));
        b.postPayment(0, 15);
        b.allocate(0, 1, 15);
        b.dispute(2, 9);
        Check.equal("33: what is open", 35, b.ageing(0, 3));
        Check.noIndex("33: customer -1", b, () -> b.ageing(-1, 0));
        Check.noIndex("33: customer 2", b, () -> b.ageing(2, 0));
        Check.noIndex("33: bucket -1", b, () -> b.ageing(0, -1));
        Check.noIndex("33: bucket 5", b, () -> b.ageing(0, 5));
    }

    private static void oldest() {
        ReceivablesBook b = new ReceivablesBook();
        Check.noIndex("34: no customer yet", b, () -> b.oldest(0));
        b.addCustomer(1, 0, 0);
        b.addCustomer(0, 0, 0);
        Check.noIndex("34: customer -1", b, () -> b.oldest(-1));
        Check.noIndex("34: customer 2", b, () -> b.oldest(2));
        Check.equal("34: none", -1, b.oldest(0));
        b.postInvoice(1, 100, 0);
        b.postInvoice(0, 100, 9);
        b.postInvoice(0, 100, 3);
        b.postInvoice(0, 100, 3);
        Check.equal("34: due first, lower number", 2, b.oldest(0));
        b.dispute(2, 99);
        Check.equal("34: a cent is clear", 2, b.oldest(0));
        b.dispute(2, 1);
        Check.equal("34: all disputed", 3, b.oldest(0));
        b.setRule(0, 0);
        b.postPayment(0, 100);
        Check.equal("34: paid", 1, b.oldest(0));
        b.postPayment(0, 100);
        Check.equal("34: none is clear", -1, b.oldest(0));
        b.release(1, 1);
        Check.equal("34: open again", 1, b.oldest(0));
        Check.equal("34: another customer's", 0, b.oldest(1));
    }
}
