import java.time.LocalDate;

/** Promises 6 to 8: today, passDays, countDays. */
public final class DaysTest {
    public static void main(String[] args) {
        passDays();
        countDaysRefuses();
        countDaysByEachConvention();
        monthsOfThirtyDays();
        Check.end("DaysTest");
    }

    private static void passDays() {
        ReceivablesBook b = new ReceivablesBook();
        for (int wrong : new int[] {Integer.MIN_VALUE, -1, 0, 401, Integer.MAX_VALUE}) {
            Check.badArgument("7: days " + wrong, b, () -> b.passDays(wrong));
        }
        Check.equal("7: a day", 1, b.passDays(1));
        Check.equal("6: today", 1, b.today());
        Check.equal("7: the most at once", 401, b.passDays(400));
        b.passDays(400);
        b.passDays(400);
        Check.badState("7: later than the last day", b, () -> b.passDays(260));
        Check.badArgument("7: out of range is told first", b, () -> b.passDays(401));
        Check.equal("7: up to the last day", 1460, b.passDays(259));
        Check.equal("6: today", 1460, b.today());
        Check.badState("7: behind the last day", b, () -> b.passDays(1));
        Check.badState("7: far behind the last day", b, () -> b.passDays(400));
        Check.badArgument("7: no day", b, () -> b.passDays(0));
    }

    private static void countDaysRefuses() {
        ReceivablesBook b = new ReceivablesBook();
        for (int wrong : new int[] {Integer.MIN_VALUE, -1, 3, Integer.MAX_VALUE}) {
            Check.badArgument("8: convention " + wrong, b, () -> b.countDays(wrong, 0, 1));
        }
        Check.badArgument("8: from -1", b, () -> b.countDays(0, -1, 1));
        Check.badArgument("8: from 1461", b, () -> b.countDays(0, 1461, 1461));
        Check.badArgument("8: to before from", b, () -> b.countDays(2, 10, 9));
        Check.badArgument("8: to 1461", b, () -> b.countDays(1, 0, 1461));
        Check.badArgument("8: to at the far end", b, () -> b.countDays(1, 0, Integer.MAX_VALUE));
    }

    private static void countDaysByEachConvention() {
        ReceivablesBook b = new ReceivablesBook();
        for (int convention = 0; convention <= 2; convention++) {
            Check.equal("8: the same day", 0, b.countDays(convention, 700, 700));
            Check.equal("8: the first day", 0, b.countDays(convention, 0, 0));
            Check.equal("8: the last day", 0, b.countDays(convention, 1460, 1460));
        }
        Check.equal("8: all days by 0", 1460, b.countDays(0, 0, 1460));
        Check.equal("8: all days by 1", 1460, b.countDays(1, 0, 1460));
        Check.equal("8: all days by 2", 1439, b.countDays(2, 0, 1460));
        Check.equal("8: January 30 to 31", 0, b.countDays(2, 29, 30));
        Check.equal("8: February 28 to March 1, 2001", 3, b.countDays(2, 58, 59));
        Check.equal("8: February 28 to 29, 2004", 1, b.countDays(2, 1153, 1154));
        Check.equal("8: February 29 to March 1, 2004", 2, b.countDays(2, 1154, 1155));
        Check.equal("8: a year", 360, b.countDays(2, 0, 365));
        Check.equal("8: December 30 to 31, 2004", 0, b.countDays(2, 1459, 1460));
    }

    private static void monthsOfThirtyDays() {
        ReceivablesBook b = new ReceivablesBook();
        LocalDate first = LocalDate.of(2001, 1, 1);
        for (int day = 0; day <= 1460; day++) {
            LocalDate date = first.plusDays(day);
            int due = 360 * (date.getYear() - 2001) + 30 * (date.getMonthValue() - 1)
                    + Math.min(30, date.getDayOfMonth()) - 1;
            Check.equal("8: from the first day to " + date, due, b.countDays(2, 0, day));
        }
    }
}
