/** Promises 35 to 37: levelOf, daysToReminder, invoicesAt, and how reminders come day by day. */
public final class RemindersTest {
    public static void main(String[] args) {
        levels();
        daysToReminder();
        whatStopsTheWait();
        paidOnesStartAgain();
        lastDays();
        invoicesAt();
        noSuchNumber();
        Check.end("RemindersTest");
    }

    private static ReceivablesBook book(int term) {
        ReceivablesBook b = new ReceivablesBook();
        b.addCustomer(2, 0, 0);
        b.postInvoice(0, 1000, term);
        return b;
    }

    private static void levels() {
        ReceivablesBook b = book(2);
        int[] waits = {2 + 7, 14, 14, 21};
        for (int level = 0; level < 4; level++) {
            Check.equal("36: days at level " + level, waits[level], b.daysToReminder(0));
            b.passDays(waits[level] - 1);
            Check.equal("35: not yet", level, b.levelOf(0));
            Check.equal("36: one day", 1, b.daysToReminder(0));
            b.passDays(1);
            Check.equal("35: now", level + 1, b.levelOf(0));
        }
        Check.equal("36: level 4", -1, b.daysToReminder(0));
        b.passDays(200);
        Check.equal("35: no further", 4, b.levelOf(0));
    }

    private static void daysToReminder() {
        ReceivablesBook b = book(10);
        Check.equal("36: up to the due day", 17, b.daysToReminder(0));
        b.pauseReminders(0, 4);
        Check.equal("36: a pause before the due day", 17, b.daysToReminder(0));
        b.pauseReminders(0, 12);
        Check.equal("36: a pause behind the due day", 19, b.daysToReminder(0));
        b.passDays(14);
        Check.equal("36: two days have counted", 5, b.daysToReminder(0));
        b.pauseReminders(0, 200);
        Check.equal("36: a pause between", 205, b.daysToReminder(0));
        b.pauseReminders(0, 0);
        Check.equal("36: no pause", 5, b.daysToReminder(0));
        b.dispute(0, 1);
        Check.equal("36: disputed", -1, b.daysToReminder(0));
        b.settle(0, 1);
        Check.equal("36: settled", 5, b.daysToReminder(0));
        b.postPayment(0, 999);
        b.allocate(0, 0, 999);
        Check.equal("36: nothing open", -1, b.daysToReminder(0));
    }

    private static void whatStopsTheWait() {
        ReceivablesBook b = book(0);
        b.passDays(6);
        b.dispute(0, 1);
        b.passDays(50);
        Check.equal("35: disputed", 0, b.levelOf(0));
        b.settle(0, 0);
        b.pauseReminders(0, 50);
        b.passDays(50);
        Check.equal("35: paused", 0, b.levelOf(0));
        b.passDays(1);
        Check.equal("35: the wait went on", 1, b.levelOf(0));
        b.passDays(13);
        b.postPayment(0, 5);
        Check.equal("36: a payment without an allocation", 1, b.daysToReminder(0));
        b.allocate(0, 0, 2);
        Check.equal("36: an allocation", 14, b.daysToReminder(0));
        b.passDays(1);
        b.release(0, 0);
        Check.equal("36: a release", 13, b.daysToReminder(0));
        Check.equal("35: the level stays", 1, b.levelOf(0));
    }

    private static void paidOnesStartAgain() {
        ReceivablesBook b = book(0);
        b.passDays(30);
        Check.equal("35: before", 2, b.levelOf(0));
        b.postPayment(0, 1000);
        b.allocate(0, 0, 1000);
        Check.equal("35: paid", 0, b.levelOf(0));
        b.passDays(30);
        Check.equal("35: paid", 0, b.levelOf(0));
        b.reverse(0);
        Check.equal("35: open again", 0, b.levelOf(0));
        Check.equal("36: open again", 7, b.daysToReminder(0));
        b.passDays(100);
        b.postPayment(0, 1000);
        b.allocate(1, 0, 999);
        Check.equal("35: level 4 stays up to the last cent", 4, b.levelOf(0));
        b.allocate(1, 0, 1);
        Check.equal("35: handed over, then paid", 0, b.levelOf(0));
    }

    private static void lastDays() {
        ReceivablesBook b = book(0);
        b.pauseReminders(0, 200);
        b.passDays(400);
        b.passDays(400);
        b.passDays(400);
        b.passDays(257);
        b.postInvoice(0, 10, 120);
        b.postInvoice(0, 10, 0);
        Check.equal("36: days behind the last one count", 127, b.daysToReminder(1));
        b.pauseReminders(0, 200);
        Check.equal("36: a pause behind the last day", 207, b.daysToReminder(1));
        b.pauseReminders(0, 0);
        b.passDays(3);
        Check.equal("36: on the last day", 4, b.daysToReminder(2));
    }

    private static void invoicesAt() {
        ReceivablesBook b = book(0);
        Check.badArgument("37: level -1", b, () -> b.invoicesAt(-1));
        Check.badArgument("37: level 5", b, () -> b.invoicesAt(5));
        b.addCustomer(0, 0, 0);
        b.postInvoice(1, 5, 0);
        b.postInvoice(1, 5, 7);
        b.postPayment(1, 5);
        Check.equal("37: paid ones included", 3, b.invoicesAt(0));
        b.passDays(14);
        Check.equal("37: level 0", 1, b.invoicesAt(0));
        Check.equal("37: level 1", 2, b.invoicesAt(1));
        b.passDays(7);
        Check.equal("37: level 2", 1, b.invoicesAt(2));
        b.passDays(14);
        Check.equal("37: level 3", 1, b.invoicesAt(3));
        b.passDays(21);
        Check.equal("37: level 4", 1, b.invoicesAt(4));
        Check.equal("37: none", 0, b.invoicesAt(1));
    }

    private static void noSuchNumber() {
        ReceivablesBook b = book(0);
        for (int wrong : new int[] {Integer.MIN_VALUE, -1, 1, Integer.MAX_VALUE}) {
            Check.noIndex("35: invoice " + wrong, b, () -> b.levelOf(wrong));
            Check.noIndex("36: invoice " + wrong, b, () -> b.daysToReminder(wrong));
        }
    }
}
