/** Promises 9 to 14: postInvoice, postPayment, allocate, allocateRest, release, reverse. */
public final class PostingsTest {
    private static final int MIN = Integer.MIN_VALUE;
    private static final int MAX = Integer.MAX_VALUE;

    public static void main(String[] args) {
        postInvoice();
        postPaymentRefuses();
        oldestFirst();
        byShare();
        shareOfGreatAmounts();
        byChoice();
        allocate();
        allocateRefuses();
        allocateRest();
        release();
        reverse();
        Check.end("PostingsTest");
    }

    private static ReceivablesBook bookOf(int rule, int... amounts) {
        ReceivablesBook b = new ReceivablesBook();
        b.addCustomer(rule, 0, 0);
        for (int amount : amounts) {
            b.postInvoice(0, amount, 10);
        }
        return b;
    }

    private static void postInvoice() {
        ReceivablesBook b = bookOf(0);
        Check.noIndex("9: customer -1", b, () -> b.postInvoice(-1, 100, 0));
        Check.noIndex("9: customer before amount", b, () -> b.postInvoice(1, 0, 0));
        for (int wrong : new int[] {MIN, -1, 0, 10000001, MAX}) {
            Check.badArgument("9: amount " + wrong, b, () -> b.postInvoice(0, wrong, 0));
        }
        for (int wrong : new int[] {MIN, -1, 121, MAX}) {
            Check.badArgument("9: term " + wrong, b, () -> b.postInvoice(0, 100, wrong));
        }
        b.postPayment(0, 70);
        b.passDays(5);
        Check.equal("9: number", 0, b.postInvoice(0, 1, 0));
        Check.equal("9: due today", 5, b.dueDay(0));
        Check.equal("9: no payment is allocated", 70, b.unallocated(0));
        Check.equal("9: ledger", "0:1", Check.ledger(b, 0));
        Check.equal("9: number", 1, b.postInvoice(0, 10000000, 120));
        Check.equal("9: due day", 125, b.dueDay(1));
        Check.equal("9: open", 10000000, b.openOf(1));
        Check.equal("9: nothing disputed", 0, b.disputedOf(1));
        Check.equal("9: level", 0, b.levelOf(1));
        Check.equal("9: wait", 127, b.daysToReminder(1));
        Check.isTrue("9: no interest invoice", !b.isInterest(1));
        for (int i = 2; i < 24; i++) {
            Check.equal("9: number", i, b.postInvoice(0, 10, 0));
        }
        Check.badState("9: a 25th", b, () -> b.postInvoice(0, 10, 0));
        Check.badArgument("9: a 25th of 0", b, () -> b.postInvoice(0, 0, 0));
        Check.noIndex("9: a 25th of nobody", b, () -> b.postInvoice(1, 10, 0));
        ReceivablesBook late = bookOf(0);
        late.passDays(400);
        late.passDays(400);
        late.passDays(400);
        late.passDays(260);
        late.postInvoice(0, 5, 120);
        Check.equal("9: due behind the last day", 1580, late.dueDay(0));
    }

    private static void postPaymentRefuses() {
        ReceivablesBook b = bookOf(0);
        Check.noIndex("10: customer -1", b, () -> b.postPayment(-1, 100));
        Check.noIndex("10: customer before amount", b, () -> b.postPayment(1, 0));
        for (int wrong : new int[] {MIN, -1, 0, 10000001, MAX}) {
            Check.badArgument("10: amount " + wrong, b, () -> b.postPayment(0, wrong));
        }
        for (int i = 0; i < 24; i++) {
            Check.equal("10: number", i, b.postPayment(0, i == 0 ? 10000000 : 1));
        }
        Check.equal("10: what the rule leaves stays", 10000000, b.unallocated(0));
        Check.equal("10: no ledger line", 0, b.ledgerLines());
        Check.badState("10: a 25th", b, () -> b.postPayment(0, 1));
        Check.badArgument("10: a 25th of 0", b, () -> b.postPayment(0, 0));
    }

    private static void oldestFirst() {
        ReceivablesBook b = new ReceivablesBook();
        b.addCustomer(0, 0, 0);
        b.addCustomer(0, 0, 0);
        b.postInvoice(0, 100, 20);
        b.postInvoice(0, 100, 10);
        b.postInvoice(1, 100, 0);
        b.postInvoice(0, 100, 10);
        b.postInvoice(0, 100, 30);
        b.dispute(1, 30);
        int before = b.ledgerLines();
        b.postPayment(0, 190);
        Check.equal("10: lines by rising numbers", "0:-20 1:-70 3:-100", Check.ledger(b, before));
        Check.equal("10: the disputed part is left out", 30, b.openOf(1));
        Check.equal("10: nothing left", 0, b.unallocated(0));
        Check.equal("10: not another customer's", 100, b.openOf(2));
        b.postPayment(0, 500);
        Check.equal("10: what is left", 320, b.unallocated(1));
        Check.equal("10: disputed stays open", 30, b.openOf(1));
        Check.equal("10: disputed stays so", 30, b.disputedOf(1));
    }

    private static void byShare() {
        ReceivablesBook b = bookOf(1, 100, 100, 101);
        int before = b.ledgerLines();
        b.postPayment(0, 100);
        Check.equal("10: greatest remainder", "0:-33 1:-33 2:-34", Check.ledger(b, before));
        ReceivablesBook same = bookOf(1, 10, 10, 10, 10);
        same.postPayment(0, 6);
        Check.equal("10: lower number first", "0:-2 1:-2 2:-1 3:-1", Check.ledger(same, 4));
        same.postPayment(0, 1);
        Check.equal("10: shares of 0 write nothing", "2:-1", Check.ledger(same, 8));
        ReceivablesBook all = bookOf(1, 50, 60, 70);
        all.dispute(1, 60);
        all.dispute(2, 1);
        all.postPayment(0, 119);
        Check.equal("10: as great as all", "0:-50 2:-69", Check.ledger(all, 3));
        all.postInvoice(0, 7, 0);
        all.postPayment(0, 8);
        Check.equal("10: greater than all", "3:-7", Check.ledger(all, 6));
        Check.equal("10: the rest stays", 1, all.unallocated(1));
        ReceivablesBook none = bookOf(1, 50);
        none.dispute(0, 50);
        none.postPayment(0, 9);
        Check.equal("10: no clear amount at all", 9, none.unallocated(0));
        ReceivablesBook waits = bookOf(1, 1, 1000);
        waits.passDays(12);
        waits.postPayment(0, 1);
        Check.equal("10: a share of 0 leaves the wait", 5, waits.daysToReminder(0));
        Check.equal("10: a share of a cent sets it to 0", 7, waits.daysToReminder(1));
    }

    private static void shareOfGreatAmounts() {
        int[] amounts = new int[24];
        for (int i = 0; i < 24; i++) {
            amounts[i] = 10000000 - i;
        }
        ReceivablesBook b = bookOf(1, amounts);
        b.postPayment(0, 9999999);
        int sum = 0;
        for (int i = 0; i < 24; i++) {
            sum += b.allocated(0, i);
            Check.isTrue("10: a 24th of it", Math.abs(b.allocated(0, i) - 416666) <= 1);
        }
        Check.equal("10: all of it", 9999999, sum);
    }

    private static void byChoice() {
        ReceivablesBook b = bookOf(2, 100);
        b.postPayment(0, 60);
        Check.equal("10: nothing is allocated", 60, b.unallocated(0));
        Check.equal("10: no line", 1, b.ledgerLines());
        Check.equal("12: nothing is allocated", 0, b.allocateRest(0));
    }

    private static void allocate() {
        ReceivablesBook b = bookOf(2, 100, 50);
        b.postPayment(0, 120);
        b.dispute(0, 40);
        b.passDays(15);
        Check.equal("11: open then", 30, b.allocate(0, 0, 70));
        Check.equal("11: disputed is cut to what is open", 30, b.disputedOf(0));
        Check.equal("11: unallocated", 50, b.unallocated(0));
        Check.equal("11: allocated", 70, b.allocated(0, 0));
        Check.equal("11: ledger", "0:-70", Check.ledger(b, 2));
        Check.equal("11: the wait of another", 2, b.daysToReminder(1));
        b.settle(0, 0);
        Check.equal("11: its wait is 0", 7, b.daysToReminder(0));
        b.passDays(3);
        Check.equal("11: its wait grows", 4, b.daysToReminder(0));
        Check.equal("11: open then", 29, b.allocate(0, 0, 1));
        Check.equal("11: a cent sets its wait to 0", 7, b.daysToReminder(0));
        Check.equal("11: added to what is allocated", 71, b.allocated(0, 0));
        Check.equal("11: level has grown", 1, b.levelOf(1));
        Check.equal("11: up to the open amount", 1, b.allocate(0, 1, 49));
        Check.equal("11: level stays", 1, b.levelOf(1));
        Check.equal("11: its wait starts again", 14, b.daysToReminder(1));
        b.postPayment(0, 1);
        Check.equal("11: nothing open", 0, b.allocate(1, 1, 1));
        Check.equal("11: level of a paid one", 0, b.levelOf(1));
        ReceivablesBook disputed = bookOf(2, 100);
        disputed.postPayment(0, 100);
        disputed.dispute(0, 100);
        Check.equal("11: the disputed part, too", 0, disputed.allocate(0, 0, 100));
        Check.equal("11: nothing disputed then", 0, disputed.disputedOf(0));
        ReceivablesBook apart = bookOf(2, 100);
        apart.postPayment(0, 60);
        apart.dispute(0, 40);
        Check.equal("11: just the clear amount", 40, apart.allocate(0, 0, 60));
        Check.equal("11: disputed stays", 40, apart.disputedOf(0));
    }

    private static void allocateRefuses() {
        ReceivablesBook b = bookOf(2, 100, 50);
        b.addCustomer(2, 0, 0);
        b.postInvoice(1, 100, 0);
        b.postPayment(0, 80);
        Check.noIndex("11: payment -1", b, () -> b.allocate(-1, 0, 1));
        Check.noIndex("11: payment 1", b, () -> b.allocate(1, 0, 1));
        Check.noIndex("11: invoice -1", b, () -> b.allocate(0, -1, 1));
        Check.noIndex("11: invoice 3 before amount", b, () -> b.allocate(0, 3, 0));
        Check.badArgument("11: amount 0", b, () -> b.allocate(0, 0, 0));
        Check.badArgument("11: amount below 0", b, () -> b.allocate(0, 0, MIN));
        Check.badArgument("11: amount 0 before another customer", b, () -> b.allocate(0, 2, 0));
        Check.badState("11: another customer's", b, () -> b.allocate(0, 2, 1));
        Check.badState("11: more than is unallocated", b, () -> b.allocate(0, 0, 81));
        Check.badState("11: more than is open", b, () -> b.allocate(0, 1, 51));
        Check.badState("11: far more", b, () -> b.allocate(0, 0, MAX));
        b.reverse(0);
        Check.badState("11: of a reversed payment", b, () -> b.allocate(0, 0, 1));
    }

    private static void allocateRest() {
        ReceivablesBook b = bookOf(2, 100, 100);
        b.addCustomer(0, 0, 0);
        b.postInvoice(1, 100, 0);
        b.dispute(0, 10);
        b.postPayment(0, 51);
        b.postPayment(1, 1);
        b.postPayment(0, 30);
        b.postPayment(0, 5);
        b.reverse(3);
        int before = b.ledgerLines();
        b.setRule(0, 1);
        Check.equal("12: how much", 81, b.allocateRest(0));
        Check.equal("12: payment by payment", "0:-24 1:-27 0:-14 1:-16", Check.ledger(b, before));
        Check.equal("12: again", 0, b.allocateRest(0));
        Check.noIndex("12: customer -1", b, () -> b.allocateRest(-1));
        Check.noIndex("12: customer 2", b, () -> b.allocateRest(2));
        b.settle(0, 10);
        b.postInvoice(0, 1, 0);
        b.postPayment(0, 500);
        b.postInvoice(0, 60, 0);
        Check.equal("12: no more than is clear", 60, b.allocateRest(0));
        Check.equal("12: what is left", 330, b.unallocated(4));
    }

    private static void release() {
        ReceivablesBook b = bookOf(0, 100, 100);
        b.addCustomer(0, 0, 0);
        b.postInvoice(1, 100, 0);
        b.postPayment(0, 150);
        Check.noIndex("13: payment -1", b, () -> b.release(-1, 0));
        Check.noIndex("13: payment 1", b, () -> b.release(1, 0));
        Check.noIndex("13: invoice -1", b, () -> b.release(0, -1));
        Check.noIndex("13: invoice 3", b, () -> b.release(0, 3));
        int before = b.ledgerLines();
        Check.equal("13: of another customer's", 0, b.release(0, 2));
        Check.equal("13: how much", 100, b.release(0, 0));
        Check.equal("13: again", 0, b.release(0, 0));
        Check.equal("13: ledger", "0:100", Check.ledger(b, before));
        Check.equal("13: unallocated", 100, b.unallocated(0));
        Check.equal("13: open", 100, b.openOf(0));
        Check.equal("13: the other stays", 50, b.allocated(0, 1));
        b.passDays(13);
        Check.equal("13: its wait", 4, b.daysToReminder(1));
        b.release(0, 1);
        Check.equal("13: its wait stays", 4, b.daysToReminder(1));
    }

    private static void reverse() {
        ReceivablesBook b = bookOf(1, 100, 200, 300);
        b.postPayment(0, 60);
        b.postPayment(0, 54);
        Check.noIndex("14: payment -1", b, () -> b.reverse(-1));
        Check.noIndex("14: payment 2", b, () -> b.reverse(2));
        b.release(0, 1);
        int before = b.ledgerLines();
        Check.equal("14: how much was allocated", 40, b.reverse(0));
        Check.equal("14: by rising numbers", "0:10 2:30", Check.ledger(b, before));
        Check.equal("14: nothing of it is unallocated", 0, b.unallocated(0));
        Check.equal("14: the other payment stays", 91, b.openOf(0));
        Check.badState("14: again", b, () -> b.reverse(0));
        Check.equal("14: it stays a payment", 2, b.payments());
        Check.equal("14: nothing to release", 0, b.release(0, 0));
        Check.equal("14: nothing to allocate", 0, b.allocateRest(0));
        b.setRule(0, 2);
        b.postPayment(0, 5);
        Check.equal("14: of one without allocations", 0, b.reverse(2));
        Check.badState("14: again", b, () -> b.reverse(2));
        Check.equal("14: balance", 546, b.balance(0));
    }
}
