/** Promises 1 to 5 and 21: a new object, addCustomer, setRule, setRate, pauseReminders, customers. */
public final class CustomersTest {
    private static final int MIN = Integer.MIN_VALUE;
    private static final int MAX = Integer.MAX_VALUE;

    public static void main(String[] args) {
        newObject();
        addCustomer();
        setRule();
        setRate();
        pauseReminders();
        Check.end("CustomersTest");
    }

    private static void newObject() {
        ReceivablesBook b = new ReceivablesBook();
        Check.equal("1: today", 0, b.today());
        Check.equal("1: customers", 0, b.customers());
        Check.equal("1: invoices", 0, b.invoices());
        Check.equal("1: payments", 0, b.payments());
        Check.equal("1: ledgerLines", 0, b.ledgerLines());
        for (int level = 0; level <= 4; level++) {
            Check.equal("1: invoicesAt " + level, 0, b.invoicesAt(level));
        }
        b.addCustomer(0, 0, 0);
        Check.equal("1: objects share nothing", 0, new ReceivablesBook().customers());
    }

    private static void addCustomer() {
        ReceivablesBook b = new ReceivablesBook();
        for (int wrong : new int[] {MIN, -1, 3, MAX}) {
            Check.badArgument("2: rule " + wrong, b, () -> b.addCustomer(wrong, 0, 0));
            Check.badArgument("2: convention " + wrong, b, () -> b.addCustomer(0, wrong, 0));
        }
        for (int wrong : new int[] {MIN, -1, 3001, MAX}) {
            Check.badArgument("2: rate " + wrong, b, () -> b.addCustomer(0, 0, wrong));
        }
        for (int i = 0; i < 6; i++) {
            Check.equal("2: number", i, b.addCustomer(i % 3, 2 - i % 3, i % 2 * 3000));
            Check.equal("21: customers", i + 1, b.customers());
        }
        Check.badState("2: a seventh", b, () -> b.addCustomer(0, 0, 0));
        Check.badArgument("2: a seventh with a wrong rule", b, () -> b.addCustomer(3, 0, 0));
        Check.badArgument("2: a seventh with a wrong rate", b, () -> b.addCustomer(0, 0, -1));
        Check.equal("2: rule is kept", 1, b.setRule(4, 0));
        Check.equal("2: rate is kept", 3000, b.setRate(5, 0));
        Check.equal("2: rate 0 is kept", 0, b.setRate(4, 1));
    }

    private static void setRule() {
        ReceivablesBook b = new ReceivablesBook();
        Check.noIndex("3: no customer yet", b, () -> b.setRule(0, 0));
        b.addCustomer(2, 0, 0);
        b.addCustomer(1, 0, 0);
        Check.noIndex("3: customer -1", b, () -> b.setRule(-1, 0));
        Check.noIndex("3: customer 2", b, () -> b.setRule(2, 0));
        Check.noIndex("3: customer before rule", b, () -> b.setRule(2, 3));
        Check.badArgument("3: rule -1", b, () -> b.setRule(0, -1));
        Check.badArgument("3: rule 3", b, () -> b.setRule(0, 3));
        Check.equal("3: a refused rule is not kept", 2, b.setRule(0, 2));
        b.postInvoice(0, 100, 9);
        b.postInvoice(0, 300, 5);
        b.postPayment(0, 40);
        Check.equal("3: by choice nothing is allocated", 40, b.unallocated(0));
        Check.equal("3: rule before", 2, b.setRule(0, 1));
        Check.equal("3: nothing is allocated by the change", 40, b.unallocated(0));
        b.allocateRest(0);
        Check.equal("3: by share", 10, b.allocated(0, 0));
        Check.equal("3: rule before", 1, b.setRule(0, 0));
        Check.equal("3: what is allocated stays", 30, b.allocated(0, 1));
        b.postPayment(0, 8);
        Check.equal("3: oldest first", 8, b.allocated(1, 1));
        Check.equal("3: the other customer's rule", 1, b.setRule(1, 1));
    }

    private static void setRate() {
        ReceivablesBook b = new ReceivablesBook();
        Check.noIndex("4: no customer yet", b, () -> b.setRate(0, 0));
        b.addCustomer(0, 1, 3000);
        Check.noIndex("4: customer -1", b, () -> b.setRate(-1, 0));
        Check.noIndex("4: customer before rate", b, () -> b.setRate(1, -1));
        Check.badArgument("4: rate -1", b, () -> b.setRate(0, -1));
        Check.badArgument("4: rate 3001", b, () -> b.setRate(0, 3001));
        b.postInvoice(0, 1200000, 0);
        b.passDays(3);
        Check.equal("4: rate before", 3000, b.setRate(0, 1500));
        Check.equal("4: what has accrued stays", 3000, b.accrued(0));
        b.passDays(2);
        Check.equal("4: the new rate from then on", 4000, b.accrued(0));
        Check.equal("4: rate before", 1500, b.setRate(0, 0));
        b.passDays(2);
        Check.equal("4: rate 0", 4000, b.accrued(0));
        Check.equal("4: rate before", 0, b.setRate(0, 3000));
    }

    private static void pauseReminders() {
        ReceivablesBook b = new ReceivablesBook();
        Check.noIndex("5: no customer yet", b, () -> b.pauseReminders(0, 1));
        b.addCustomer(0, 0, 0);
        b.addCustomer(0, 0, 0);
        b.postInvoice(0, 100, 0);
        b.postInvoice(1, 100, 0);
        Check.noIndex("5: customer -1", b, () -> b.pauseReminders(-1, 1));
        Check.noIndex("5: customer before days", b, () -> b.pauseReminders(2, 201));
        Check.badArgument("5: days -1", b, () -> b.pauseReminders(0, -1));
        Check.badArgument("5: days 201", b, () -> b.pauseReminders(0, 201));
        b.passDays(2);
        Check.equal("5: first day after", 5, b.pauseReminders(0, 3));
        Check.equal("5: days until the reminder", 8, b.daysToReminder(0));
        Check.equal("5: the other customer is not paused", 5, b.daysToReminder(1));
        b.passDays(7);
        Check.equal("5: not yet", 0, b.levelOf(0));
        Check.equal("5: the other one", 1, b.levelOf(1));
        b.passDays(1);
        Check.equal("5: now", 1, b.levelOf(0));
        Check.equal("5: a long pause", 210, b.pauseReminders(0, 200));
        Check.equal("5: a shorter one in its place", 11, b.pauseReminders(0, 1));
        Check.equal("5: one day, today", 15, b.daysToReminder(0));
        Check.equal("5: 0 ends it", 10, b.pauseReminders(0, 0));
        Check.equal("5: not paused today", 14, b.daysToReminder(0));
        b.passDays(1);
        Check.equal("5: it waits today already", 13, b.daysToReminder(0));
    }
}
