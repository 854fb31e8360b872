import java.util.Arrays;

/**
 * How amounts are allocated and split, at the edges: a cent less than all, all, a cent more; equal
 * remainders, no remainders, invoices without a clear amount; and the disputed part, which is never
 * greater than the open amount.
 */
public final class SharingTest {
    public static void main(String[] args) {
        oldestFirst();
        sameDueDay();
        shareOfAll();
        shareOfACent();
        remainders();
        disputedIsLeftOut();
        disputeAllSplits();
        disputedPart();
        disputedPartAndRules();
        interestInvoicesShare();
        allocateRestInTurn();
        ledgerOfNothing();
        Check.end("SharingTest");
    }

    private static ReceivablesBook book(int rule, int... amounts) {
        ReceivablesBook b = new ReceivablesBook();
        b.addCustomer(rule, 0, 0);
        for (int amount : amounts) {
            b.postInvoice(0, amount, 0);
        }
        return b;
    }

    private static String parts(ReceivablesBook b, int payment) {
        int[] parts = new int[b.invoices()];
        for (int i = 0; i < parts.length; i++) {
            parts[i] = b.allocated(payment, i);
        }
        return Arrays.toString(parts);
    }

    private static String disputed(ReceivablesBook b) {
        int[] parts = new int[b.invoices()];
        for (int i = 0; i < parts.length; i++) {
            parts[i] = b.disputedOf(i);
        }
        return Arrays.toString(parts);
    }

    private static void oldestFirst() {
        Object[][] rows = {{1, "[0, 1, 0]", 0}, {29, "[0, 29, 0]", 0}, {30, "[0, 30, 0]", 0}, {31, "[0, 30, 1]", 0},
            {49, "[0, 30, 19]", 0}, {50, "[0, 30, 20]", 0}, {51, "[1, 30, 20]", 0}, {59, "[9, 30, 20]", 0},
            {60, "[10, 30, 20]", 0}, {61, "[10, 30, 20]", 1}, {10000000, "[10, 30, 20]", 9999940}};
        for (Object[] row : rows) {
            ReceivablesBook b = new ReceivablesBook();
            b.addCustomer(0, 0, 0);
            b.postInvoice(0, 10, 2);
            b.postInvoice(0, 30, 0);
            b.postInvoice(0, 20, 1);
            b.postPayment(0, (Integer) row[0]);
            Check.equal("10: oldest first, " + row[0], (String) row[1], parts(b, 0));
            Check.equal("30: oldest first, " + row[0], (Integer) row[2], b.unallocated(0));
        }
    }

    private static void sameDueDay() {
        ReceivablesBook b = new ReceivablesBook();
        b.addCustomer(0, 0, 0);
        b.postInvoice(0, 10, 5);
        b.passDays(1);
        b.postInvoice(0, 10, 4);
        b.passDays(1);
        b.postInvoice(0, 10, 2);
        Check.equal("34: due a day earlier, though the highest number", 2, b.oldest(0));
        b.postPayment(0, 11);
        Check.equal("10: then the lower number on the same day", "[1, 0, 10]", parts(b, 0));
        Check.equal("34: a part of it is clear", 0, b.oldest(0));
        b.postPayment(0, 9);
        Check.equal("34: the higher number on the same day", 1, b.oldest(0));
        b.postPayment(0, 10);
        Check.equal("34: none", -1, b.oldest(0));
        b.release(2, 1);
        Check.equal("34: the one that is open again", 1, b.oldest(0));
        b.release(0, 0);
        Check.equal("34: a cent of the lower number", 0, b.oldest(0));
        b.release(0, 2);
        Check.equal("34: due a day earlier", 2, b.oldest(0));
    }

    private static void shareOfAll() {
        Object[][] rows = {{59, "[10, 29, 20]", 0}, {60, "[10, 30, 20]", 0}, {61, "[10, 30, 20]", 1},
            {10000000, "[10, 30, 20]", 9999940}, {58, "[10, 29, 19]", 0}, {30, "[5, 15, 10]", 0}};
        for (Object[] row : rows) {
            ReceivablesBook b = book(1, 10, 30, 20);
            b.postPayment(0, (Integer) row[0]);
            Check.equal("10: by share, " + row[0], (String) row[1], parts(b, 0));
            Check.equal("30: by share, " + row[0], (Integer) row[2], b.unallocated(0));
        }
        ReceivablesBook one = book(1, 50);
        one.postPayment(0, 49);
        Check.equal("10: one invoice gets all", "[49]", parts(one, 0));
        one.postPayment(0, 2);
        Check.equal("10: up to its clear amount", "[1]", parts(one, 1));
        Check.equal("30: the rest", 1, one.unallocated(1));
    }

    private static void shareOfACent() {
        ReceivablesBook b = book(1, 7, 7, 7);
        b.postPayment(0, 1);
        Check.equal("10: the lower number", "[1, 0, 0]", parts(b, 0));
        b.postPayment(0, 1);
        Check.equal("10: the greatest remainder", "[0, 1, 0]", parts(b, 1));
        b.postPayment(0, 1);
        Check.equal("10: the greatest remainder", "[0, 0, 1]", parts(b, 2));
        ReceivablesBook great = book(1, 10000000, 1, 9999999);
        great.postPayment(0, 1);
        Check.equal("10: a cent, great weights", "[1, 0, 0]", parts(great, 0));
        great.postPayment(0, 1);
        Check.equal("10: a cent, equal great weights", "[1, 0, 0]", parts(great, 1));
        great.postPayment(0, 1);
        Check.equal("10: a cent, great weights", "[0, 0, 1]", parts(great, 2));
    }

    private static void remainders() {
        Object[][] rows = {{new int[] {1, 1, 1, 1}, 1, "[1, 0, 0, 0]"}, {new int[] {1, 1, 1, 1}, 2, "[1, 1, 0, 0]"},
            {new int[] {1, 1, 1, 1}, 3, "[1, 1, 1, 0]"}, {new int[] {1, 1, 1, 1}, 4, "[1, 1, 1, 1]"},
            {new int[] {2, 2, 2, 2}, 4, "[1, 1, 1, 1]"}, {new int[] {3, 3, 3}, 8, "[3, 3, 2]"},
            {new int[] {1, 2, 3}, 1, "[0, 0, 1]"}, {new int[] {1, 2, 3}, 2, "[0, 1, 1]"},
            {new int[] {1, 2, 3}, 4, "[1, 1, 2]"}, {new int[] {1, 2, 3}, 5, "[1, 2, 2]"},
            {new int[] {5, 1, 5, 1}, 6, "[3, 1, 2, 0]"}, {new int[] {1, 3, 1, 3}, 2, "[0, 1, 0, 1]"},
            {new int[] {1, 3, 1, 3}, 7, "[1, 3, 1, 2]"}, {new int[] {3, 1, 3, 1}, 1, "[1, 0, 0, 0]"},
            {new int[] {10000000, 10000000, 10000000}, 9999999, "[3333333, 3333333, 3333333]"},
            {new int[] {10000000, 10000000, 10000000}, 10000000, "[3333334, 3333333, 3333333]"}};
        for (Object[] row : rows) {
            ReceivablesBook b = book(1, (int[]) row[0]);
            b.postPayment(0, (Integer) row[1]);
            Check.equal("10: remainders of " + row[1], (String) row[2], parts(b, 0));
            ReceivablesBook d = book(1, (int[]) row[0]);
            d.disputeAll(0, (Integer) row[1]);
            Check.equal("16: remainders of " + row[1], (String) row[2], disputed(d));
        }
    }

    private static void disputedIsLeftOut() {
        for (int rule = 0; rule <= 1; rule++) {
            ReceivablesBook b = book(rule, 10, 10, 10);
            b.dispute(0, 10);
            b.dispute(1, 9);
            b.postPayment(0, 11);
            Check.equal("10: up to the clear amounts", "[0, 1, 10]", parts(b, 0));
            Check.equal("28: no rule touches what is disputed", "[10, 9, 0]", disputed(b));
            b.postPayment(0, 5);
            Check.equal("10: nothing is clear", "[0, 0, 0]", parts(b, 1));
            Check.equal("34: nothing is clear", -1, b.oldest(0));
            Check.equal("12: nothing is clear", 0, b.allocateRest(0));
            b.settle(0, 8);
            Check.equal("12: two cents are clear", 2, b.allocateRest(0));
            Check.equal("12: two cents are clear", "[2, 0, 0]", parts(b, 1));
        }
    }

    private static void disputeAllSplits() {
        ReceivablesBook b = book(2, 10, 30, 20);
        Check.equal("16: a cent", 1, b.disputeAll(0, 1));
        Check.equal("16: a cent", "[0, 1, 0]", disputed(b));
        Check.equal("16: a cent less than all", 3, b.disputeAll(0, 58));
        Check.equal("16: a cent less than all", "[10, 29, 20]", disputed(b));
        Check.badState("16: a cent more than all", b, () -> b.disputeAll(0, 2));
        Check.equal("16: all", 1, b.disputeAll(0, 1));
        Check.equal("16: all", "[10, 30, 20]", disputed(b));
        Check.badState("16: nothing is clear", b, () -> b.disputeAll(0, 1));
        ReceivablesBook all = book(2, 10, 30, 20);
        Check.equal("16: all at once", 3, all.disputeAll(0, 60));
        Check.equal("16: all at once", "[10, 30, 20]", disputed(all));
        int[] most = new int[24];
        Arrays.fill(most, 10000000);
        ReceivablesBook great = book(2, most);
        Check.badState("16: a cent more than the most", great, () -> great.disputeAll(0, 240000001));
        Check.badState("16: the greatest int", great, () -> great.disputeAll(0, Integer.MAX_VALUE));
        Check.equal("16: a cent less than the most", 24, great.disputeAll(0, 239999999));
        Check.equal("16: the last one has a cent less", 9999999, great.disputedOf(23));
        Check.equal("16: the first one has all", 10000000, great.disputedOf(0));
        Check.equal("16: the last cent", 1, great.disputeAll(0, 1));
    }

    private static void disputedPart() {
        int[][] rows = {{59, 40, 41}, {60, 40, 40}, {61, 39, 39}, {99, 1, 1}, {100, 0, 0}, {1, 40, 99}};
        for (int[] row : rows) {
            ReceivablesBook b = book(2, 100);
            b.postPayment(0, 100);
            b.dispute(0, 40);
            Check.equal("11: open, " + row[0], row[2], b.allocate(0, 0, row[0]));
            Check.equal("28: never greater than open, " + row[0], row[1], b.disputedOf(0));
            b.release(0, 0);
            Check.equal("28: a release brings nothing back", row[1], b.disputedOf(0));
            Check.equal("26: open again", 100, b.openOf(0));
            if (row[1] == 0) {
                Check.badState("17: nothing is disputed any more", b, () -> b.settle(0, 0));
            } else {
                Check.badArgument("17: more than is disputed", b, () -> b.settle(0, row[1] + 1));
                Check.equal("17: what is disputed", 100 - row[1], b.settle(0, row[1]));
            }
        }
    }

    private static void disputedPartAndRules() {
        ReceivablesBook b = book(2, 100);
        b.postPayment(0, 100);
        b.dispute(0, 100);
        Check.badState("15: all is disputed", b, () -> b.dispute(0, 1));
        b.allocate(0, 0, 30);
        Check.equal("28: as great as open", 70, b.disputedOf(0));
        Check.badState("15: all is still disputed", b, () -> b.dispute(0, 1));
        b.release(0, 0);
        Check.equal("15: what was released is clear", 100, b.dispute(0, 30));
        b.reverse(0);
        Check.equal("17: all is granted", 0, b.settle(0, 100));
        Check.equal("27: all is granted", 0, b.openByLedger(0));
        Check.equal("38: lines", "0:100 0:-30 0:30 0:-100", Check.ledger(b, 0));
    }

    private static void interestInvoicesShare() {
        ReceivablesBook b = new ReceivablesBook();
        b.addCustomer(1, 1, 3000);
        b.postInvoice(0, 12000, 0);
        b.passDays(1);
        b.chargeInterest(0, 0);
        b.postPayment(0, 1201);
        Check.equal("10: an interest invoice has its share", "[1200, 1]", parts(b, 0));
        Check.equal("16: an interest invoice has its share", 2, b.disputeAll(0, 1801));
        Check.equal("16: an interest invoice has its share", "[1800, 1]", disputed(b));
        Check.equal("17: of an interest invoice", 8, b.settle(1, 1));
        b.passDays(400);
        Check.equal("19: none of an interest invoice", 0, b.accrued(1));
        Check.equal("35: an interest invoice is reminded", 4, b.levelOf(1));
    }

    private static void allocateRestInTurn() {
        ReceivablesBook b = book(2, 10, 10);
        b.postPayment(0, 7);
        b.postPayment(0, 12);
        b.postPayment(0, 5);
        b.setRule(0, 0);
        int before = b.ledgerLines();
        Check.equal("12: up to all that is clear", 20, b.allocateRest(0));
        Check.equal("12: by rising numbers of payments", "0:-7 0:-3 1:-9 1:-1", Check.ledger(b, before));
        Check.equal("30: the last one has a rest", 4, b.unallocated(2));
        Check.equal("12: nothing more", 0, b.allocateRest(0));
        Check.equal("38: no line", before + 4, b.ledgerLines());
    }

    private static void ledgerOfNothing() {
        ReceivablesBook b = book(1, 1, 1000);
        b.postPayment(0, 1);
        Check.equal("10: a share of 0 writes nothing", "0:1 1:1000 1:-1", Check.ledger(b, 0));
        b.release(0, 0);
        Check.equal("13: nothing writes nothing", 3, b.ledgerLines());
        b.dispute(1, 5);
        b.settle(1, 0);
        Check.equal("17: granted 0 writes nothing", 3, b.ledgerLines());
        b.reverse(0);
        Check.equal("14: a line for what was allocated alone", "1:1", Check.ledger(b, 3));
        b.chargeInterest(0, 0);
        b.allocateRest(0);
        Check.equal("12, 18: nothing writes nothing", 4, b.ledgerLines());
    }
}
