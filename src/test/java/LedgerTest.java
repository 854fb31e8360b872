/** Promises 38 to 40 and 27: ledgerLines, lineInvoice, lineAmount; and a ledger as long as can be. */
public final class LedgerTest {
    private static final int CALLS = 512;

    public static void main(String[] args) {
        lines();
        manyLines();
        Check.end("LedgerTest");
    }

    private static void lines() {
        ReceivablesBook b = new ReceivablesBook();
        Check.noIndex("39: no line yet", b, () -> b.lineInvoice(0));
        Check.noIndex("40: no line yet", b, () -> b.lineAmount(0));
        b.addCustomer(1, 1, 1800);
        b.postInvoice(0, 200000, 0);
        b.postInvoice(0, 200000, 0);
        b.passDays(1);
        b.chargeInterest(0, 3);
        b.postPayment(0, 40020);
        b.dispute(1, 50);
        b.settle(1, 20);
        b.release(0, 1);
        b.reverse(0);
        b.dispute(1, 50);
        b.settle(1, 0);
        Check.equal("38: lines", 10, b.ledgerLines());
        Check.equal("39, 40: lines",
                "0:200000 1:200000 2:200 0:-20000 1:-20000 2:-20 1:-20 1:20000 0:20000 2:20", Check.ledger(b, 0));
        for (int wrong : new int[] {Integer.MIN_VALUE, -1, 10, 63, 64, Integer.MAX_VALUE}) {
            Check.noIndex("39: line " + wrong, b, () -> b.lineInvoice(wrong));
            Check.noIndex("40: line " + wrong, b, () -> b.lineAmount(wrong));
        }
    }

    /** Releases a part of each payment, then lets the rule share each part over 24 invoices. */
    private static void manyLines() {
        ReceivablesBook b = new ReceivablesBook();
        b.addCustomer(2, 0, 0);
        int calls = 1;
        for (int i = 0; i < 24; i++) {
            b.postInvoice(0, 10000000, 0);
            b.postPayment(0, 9000000);
            calls += 2;
        }
        b.setRule(0, 1);
        b.allocateRest(0);
        calls += 2;
        Check.equal("38: each payment shared over each invoice", 24 + 24 * 24, b.ledgerLines());
        for (int round = 0; calls + 25 <= CALLS - 24; round++) {
            for (int p = 0; p < 24; p++) {
                b.release(p, (p + round) % 24);
            }
            b.allocateRest(0);
            calls += 25;
        }
        for (int p = 0; p < 24; p++) {
            b.reverse(p);
        }
        Check.isTrue("38: a long ledger has " + b.ledgerLines(), b.ledgerLines() > 10000);
        int sum = 0;
        for (int line = 0; line < b.ledgerLines(); line++) {
            sum += b.lineAmount(line);
        }
        Check.equal("40: all lines together", 240000000, sum);
        for (int i = 0; i < 24; i++) {
            Check.equal("27: open by a long ledger", b.openOf(i), b.openByLedger(i));
        }
    }
}
