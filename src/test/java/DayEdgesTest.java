/**
 * What happens when a day passes, at its edges: the first day that counts and the last that does not,
 * the order of interest, reminders and the new day, the waits of each level, pauses, the last days.
 */
public final class DayEdgesTest {
    public static void main(String[] args) {
        firstDayOfInterest();
        wholeCents();
        daysOfNoneAndOfThree();
        lastDayOfInterest();
        manyDaysAtOnce();
        upToTheLastDay();
        firstDayOfWait();
        lastCentWaits();
        waitsOfEachLevel();
        pauses();
        pausesAndReminders();
        waitSetBack();
        levelSetBack();
        handedOver();
        buckets();
        lateBuckets();
        Check.end("DayEdgesTest");
    }

    private static ReceivablesBook book(int rule, int convention, int rate) {
        ReceivablesBook b = new ReceivablesBook();
        b.addCustomer(rule, convention, rate);
        return b;
    }

    /** 3000 basis points of 1200 cents make a cent a day by the convention 1. */
    private static void firstDayOfInterest() {
        for (int term = 0; term <= 3; term++) {
            ReceivablesBook b = book(0, 1, 3000);
            b.passDays(5);
            b.postInvoice(0, 1200, term);
            for (int day = 1; day <= 6; day++) {
                b.passDays(1);
                Check.equal("7.1: due day d or earlier, term " + term, Math.max(0, day - term), b.accrued(0));
            }
        }
    }

    private static void wholeCents() {
        int[][] rows = {{0, 3650, 1000, 1}, {0, 3649, 1000, 0}, {0, 7300, 1000, 2}, {0, 7299, 1000, 1},
            {1, 3600, 1000, 1}, {1, 3599, 1000, 0}, {2, 3600, 1000, 1}, {2, 3599, 1000, 0}, {2, 7199, 1000, 1}};
        for (int[] row : rows) {
            ReceivablesBook b = book(0, row[0], row[2]);
            b.postInvoice(0, row[1], 0);
            b.passDays(1);
            Check.equal("19: rounded down, by " + row[0] + " of " + row[1], row[3], b.accrued(0));
            Check.equal("18: rounded down, by " + row[0], row[3] == 0 ? -1 : 1, b.chargeInterest(0, 0));
            Check.equal("19: nothing but a fraction", 0, b.accrued(0));
        }
        ReceivablesBook most = book(0, 0, 3000);
        most.postInvoice(0, 10000000, 0);
        most.passDays(1);
        Check.equal("19: the most of a day", 8219, most.accrued(0));
        ReceivablesBook least = book(0, 0, 1);
        least.postInvoice(0, 1, 0);
        Books.passUpTo(least, 1460);
        Check.equal("19: the least of all days", 0, least.accrued(0));
        Check.equal("18: the least of all days", -1, least.chargeInterest(0, 0));
        ReceivablesBook none = book(0, 0, 0);
        none.postInvoice(0, 10000000, 0);
        Books.passUpTo(none, 1460);
        Check.equal("19: the rate 0", 0, none.accrued(0));
    }

    /** From the 30th to the 31st no day counts by the convention 2, and three at the end of a February of 28. */
    private static void daysOfNoneAndOfThree() {
        int[][] rows = {{28, 1}, {29, 0}, {30, 1}, {31, 1}, {57, 1}, {58, 3}, {59, 1}, {88, 0}, {89, 1},
            {363, 0}, {364, 1}, {365, 1}, {423, 3}, {788, 3}, {1152, 1}, {1153, 1}, {1154, 2}, {1155, 1}, {1459, 0}};
        for (int[] row : rows) {
            ReceivablesBook b = book(0, 2, 3000);
            Books.passUpTo(b, row[0]);
            b.postInvoice(0, 1200, 0);
            b.passDays(1);
            Check.equal("19: from the day " + row[0], row[1], b.accrued(0));
            Check.equal("8: from the day " + row[0], row[1], b.countDays(2, row[0], row[0] + 1));
        }
    }

    private static void lastDayOfInterest() {
        ReceivablesBook b = book(0, 1, 3000);
        Books.passUpTo(b, 1459);
        b.postInvoice(0, 1200, 0);
        b.postInvoice(0, 1200, 1);
        b.postInvoice(0, 1200, 120);
        Check.equal("7: the last day", 1460, b.passDays(1));
        Check.equal("19: from 1459 to 1460", 1, b.accrued(0));
        Check.equal("19: due on the last day", 0, b.accrued(1));
        Check.equal("19: due behind the last day", 0, b.accrued(2));
        Check.equal("25: due on the last day", 1460, b.dueDay(1));
        Check.equal("25: due behind the last day", 1579, b.dueDay(2));
        Check.equal("32: due on the last day", 0, b.bucketOf(1));
        Check.equal("32: due the day before", 1, b.bucketOf(0));
    }

    private static void manyDaysAtOnce() {
        ReceivablesBook once = Books.mixed();
        ReceivablesBook each = Books.mixed();
        once.passDays(400);
        for (int day = 0; day < 400; day++) {
            each.passDays(1);
        }
        Check.equal("7: one after the other", Check.picture(each), Check.picture(once));
        Check.equal("7: and later", Books.future(each), Books.future(once));
    }

    private static void upToTheLastDay() {
        for (int days = 1; days <= 400; days += 57) {
            int by = days;
            ReceivablesBook b = book(0, 0, 0);
            Books.passUpTo(b, 1460 - days + 1);
            Check.badState("7: the day 1461 by " + days, b, () -> b.passDays(by));
            ReceivablesBook good = book(0, 0, 0);
            Books.passUpTo(good, 1460 - days);
            Check.equal("7: the day 1460 by " + days, 1460, good.passDays(days));
        }
        ReceivablesBook b = book(0, 0, 0);
        Books.passUpTo(b, 1061);
        Check.badState("7: the day 1461 by 400", b, () -> b.passDays(400));
        Check.equal("7: the day 1460 by 399", 1460, b.passDays(399));
    }

    private static void firstDayOfWait() {
        for (int term = 0; term <= 2; term++) {
            ReceivablesBook b = book(0, 0, 0);
            b.postInvoice(0, 1, term);
            b.passDays(term + 6);
            Check.equal("7.2: six days of wait, term " + term, 0, b.levelOf(0));
            b.passDays(1);
            Check.equal("7.2: seven days of wait, term " + term, 1, b.levelOf(0));
        }
    }

    private static void lastCentWaits() {
        ReceivablesBook b = book(0, 0, 0);
        b.postInvoice(0, 2, 0);
        b.postPayment(0, 1);
        b.postInvoice(0, 2, 0);
        b.postPayment(0, 1);
        b.postPayment(0, 1);
        b.dispute(1, 1);
        Check.equal("7.2: a paid one", 0, b.openOf(0));
        Check.equal("7.2: a cent is open, and disputed", 1, b.disputedOf(1));
        b.postInvoice(0, 3, 0);
        b.postPayment(0, 2);
        b.passDays(7);
        Check.equal("7.2: open 0", 0, b.levelOf(0));
        Check.equal("7.2: disputed", 0, b.levelOf(1));
        Check.equal("7.2: a cent is open", 1, b.levelOf(2));
        Check.equal("36: open 0", -1, b.daysToReminder(0));
        Check.equal("36: disputed", -1, b.daysToReminder(1));
        Check.equal("36: a cent is open", 14, b.daysToReminder(2));
    }

    private static void waitsOfEachLevel() {
        int[] ends = {7, 21, 35, 56};
        for (int level = 0; level < 4; level++) {
            ReceivablesBook b = book(0, 0, 0);
            b.postInvoice(0, 100, 0);
            b.passDays(ends[level] - 1);
            Check.equal("35: the day before", level, b.levelOf(0));
            Check.equal("36: the day before", 1, b.daysToReminder(0));
            Check.equal("37: the day before", 1, b.invoicesAt(level));
            Check.equal("37: none above", 0, b.invoicesAt(level + 1));
            b.passDays(1);
            Check.equal("35: the day", level + 1, b.levelOf(0));
            Check.equal("36: the wait is 0", new int[] {14, 14, 21, -1}[level], b.daysToReminder(0));
            Check.equal("37: the day", 1, b.invoicesAt(level + 1));
            Check.equal("37: none below", 0, b.invoicesAt(level));
        }
    }

    /** A pause of n days from the day d: the wait does not grow from d to d + n - 1. */
    private static void pauses() {
        for (int days : new int[] {0, 1, 2, 199, 200}) {
            ReceivablesBook b = book(0, 0, 0);
            b.postInvoice(0, 100, 0);
            b.passDays(3);
            Check.equal("5: the first day after", 3 + days, b.pauseReminders(0, days));
            Check.equal("36: a pause of " + days, 4 + days, b.daysToReminder(0));
            b.passDays(4 + days - 1);
            Check.equal("7.2: not yet, paused for " + days, 0, b.levelOf(0));
            Check.equal("36: a day", 1, b.daysToReminder(0));
            b.passDays(1);
            Check.equal("7.2: now, paused for " + days, 1, b.levelOf(0));
        }
        ReceivablesBook last = book(0, 0, 0);
        Books.passUpTo(last, 1460);
        last.postInvoice(0, 100, 0);
        Check.equal("5: ends behind the last day", 1660, last.pauseReminders(0, 200));
        Check.equal("36: behind the last day", 207, last.daysToReminder(0));
        Check.equal("5: ends today", 1460, last.pauseReminders(0, 0));
        Check.equal("36: behind the last day", 7, last.daysToReminder(0));
        last.postInvoice(0, 100, 120);
        Check.equal("36: due and reminded behind the last day", 127, last.daysToReminder(1));
        last.pauseReminders(0, 121);
        Check.equal("36: paused past a due day behind the last day", 128, last.daysToReminder(1));
    }

    /** A pause that ends on the due day, or earlier, changes nothing; one that ends the day after it, a day. */
    private static void pausesAndReminders() {
        int[][] rows = {{9, 17}, {10, 17}, {11, 18}, {12, 19}};
        for (int[] row : rows) {
            ReceivablesBook b = book(0, 0, 0);
            b.postInvoice(0, 100, 10);
            b.pauseReminders(0, row[0]);
            Check.equal("36: paused up to the day " + row[0], row[1], b.daysToReminder(0));
            b.passDays(row[1] - 1);
            Check.equal("35: the day before", 0, b.levelOf(0));
            b.passDays(1);
            Check.equal("35: the day", 1, b.levelOf(0));
        }
        ReceivablesBook over = book(0, 0, 0);
        over.postInvoice(0, 100, 0);
        over.pauseReminders(0, 3);
        over.passDays(2);
        Check.equal("36: the last day of a pause", 8, over.daysToReminder(0));
        over.passDays(1);
        Check.equal("36: the first day after it", 7, over.daysToReminder(0));
        over.passDays(1);
        Check.equal("36: a pause that is over", 6, over.daysToReminder(0));
        over.pauseReminders(0, 10);
        over.pauseReminders(0, 2);
        Check.equal("5: a shorter one in place of a longer one", 8, over.daysToReminder(0));
        over.pauseReminders(0, 10);
        Check.equal("5: a longer one in place of a shorter one", 16, over.daysToReminder(0));
    }

    private static void waitSetBack() {
        ReceivablesBook b = book(1, 0, 0);
        b.postInvoice(0, 1, 0);
        b.postInvoice(0, 1000, 0);
        b.passDays(6);
        b.postPayment(0, 1);
        Check.equal("10: a share of 0 leaves the wait", 1, b.daysToReminder(0));
        Check.equal("10: a cent sets it to 0", 7, b.daysToReminder(1));
        b.passDays(6);
        b.release(0, 1);
        Check.equal("13: a release leaves it", 1, b.daysToReminder(1));
        b.dispute(1, 5);
        b.passDays(9);
        b.settle(1, 4);
        Check.equal("17: a dispute and a credit leave it", 1, b.daysToReminder(1));
        b.setRule(0, 2);
        b.setRate(0, 3000);
        b.pauseReminders(0, 0);
        Check.equal("3, 4, 5: they leave it", 1, b.daysToReminder(1));
        b.chargeInterest(0, 0);
        b.postInvoice(0, 5, 0);
        b.postPayment(0, 5);
        Check.equal("9, 10, 18: they leave it", 1, b.daysToReminder(1));
        b.passDays(1);
        Check.equal("35: it has reached 7", 1, b.levelOf(1));
    }

    private static void levelSetBack() {
        ReceivablesBook b = book(2, 0, 0);
        b.postInvoice(0, 100, 0);
        b.postPayment(0, 100);
        b.passDays(10);
        b.allocate(0, 0, 99);
        Check.equal("35: a cent is open", 1, b.levelOf(0));
        Check.equal("36: the wait is 0", 14, b.daysToReminder(0));
        b.passDays(3);
        b.allocate(0, 0, 1);
        Check.equal("35: nothing is open", 0, b.levelOf(0));
        b.release(0, 0);
        Check.equal("35: no level comes back", 0, b.levelOf(0));
        Check.equal("36: no wait comes back", 7, b.daysToReminder(0));
        b.passDays(10);
        b.dispute(0, 100);
        Check.equal("17: a cent is left", 1, b.settle(0, 99));
        Check.equal("35: a cent is left", 1, b.levelOf(0));
        Check.equal("36: a credit leaves the wait", 11, b.daysToReminder(0));
        b.dispute(0, 1);
        Check.equal("17: nothing is left", 0, b.settle(0, 1));
        Check.equal("35: nothing is left", 0, b.levelOf(0));
        Check.equal("37: a credited one", 1, b.invoicesAt(0));
        Check.equal("31: a payment is left", -100, b.balance(0));
    }

    private static void handedOver() {
        ReceivablesBook b = book(2, 0, 0);
        b.postInvoice(0, 100, 0);
        b.passDays(55);
        Check.equal("35: the last day at 3", 3, b.levelOf(0));
        b.passDays(1);
        Check.equal("35: handed over", 4, b.levelOf(0));
        Books.passUpTo(b, 1460);
        Check.equal("35: there is no level 5", 4, b.levelOf(0));
        Check.equal("36: there is no level 5", -1, b.daysToReminder(0));
        b.postPayment(0, 100);
        b.allocate(0, 0, 1);
        Check.equal("35: a part of it leaves the level", 4, b.levelOf(0));
        Check.equal("36: a part of it leaves the level", -1, b.daysToReminder(0));
        b.dispute(0, 1);
        b.settle(0, 1);
        Check.equal("35: a credit leaves the level", 4, b.levelOf(0));
        b.allocate(0, 0, 98);
        Check.equal("35: all of it", 0, b.levelOf(0));
        b.reverse(0);
        Check.equal("36: it begins again", 7, b.daysToReminder(0));
    }

    private static void buckets() {
        int[][] rows = {{0, 0}, {1, 1}, {30, 1}, {31, 2}, {60, 2}, {61, 3}, {90, 3}, {91, 4}, {400, 4}};
        for (int term : new int[] {0, 1, 120}) {
            for (int[] row : rows) {
                ReceivablesBook b = book(0, 0, 0);
                b.postInvoice(0, 100, term);
                Books.passUpTo(b, term + row[0]);
                Check.equal("32: " + row[0] + " days after the due day", row[1], b.bucketOf(0));
                for (int bucket = 0; bucket <= 4; bucket++) {
                    Check.equal("33: bucket " + bucket, bucket == row[1] ? 100 : 0, b.ageing(0, bucket));
                }
            }
        }
    }

    private static void lateBuckets() {
        ReceivablesBook b = book(0, 0, 0);
        b.postInvoice(0, 100, 120);
        Check.equal("32: long before the due day", 0, b.bucketOf(0));
        Books.passUpTo(b, 1460);
        b.postInvoice(0, 7, 0);
        b.postInvoice(0, 8, 120);
        Check.equal("32: as late as can be", 4, b.bucketOf(0));
        Check.equal("32: due today", 0, b.bucketOf(1));
        Check.equal("32: due behind the last day", 0, b.bucketOf(2));
        Check.equal("33: up to the due day", 15, b.ageing(0, 0));
        b.postPayment(0, 100);
        Check.equal("32: a paid one has a bucket, too", 4, b.bucketOf(0));
        Check.equal("33: a paid one adds nothing", 0, b.ageing(0, 4));
    }
}
