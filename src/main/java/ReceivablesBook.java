import java.util.ArrayList;
import java.util.Arrays;

/**
 * A receivables book: invoices of customers, payments that are allocated to them by a rule or by
 * hand, disputed amounts, ageing buckets, interest by days, and reminders.
 */
public final class ReceivablesBook {
    private static final int MAX_CUSTOMERS = 6;
    private static final int MAX_INVOICES = 24;
    private static final int MAX_PAYMENTS = 24;
    private static final int MAX_AMOUNT = 10000000;
    private static final int MAX_TERM = 120;
    private static final int MAX_RATE = 3000;
    private static final int MAX_PAUSE = 200;
    private static final int MAX_DAYS_AT_ONCE = 400;
    private static final int LAST_DAY = 1460;
    private static final int LAST_RULE = 2;
    private static final int LAST_CONVENTION = 2;
    private static final int LAST_BUCKET = 4;
    private static final int LAST_LEVEL = 4;
    private static final int OLDEST_FIRST = 0;
    private static final int BY_SHARE = 1;
    private static final int BASIS_POINTS = 10000;

    private final ArrayList<Customer> customerList;
    private final ArrayList<Invoice> invoiceList;
    private final ArrayList<Payment> paymentList;
    private final Ledger ledger;
    private final Shares shares;
    private int currentDay;

    public ReceivablesBook() {
        customerList = new ArrayList<Customer>();
        invoiceList = new ArrayList<Invoice>();
        paymentList = new ArrayList<Payment>();
        ledger = new Ledger();
        shares = new Shares();
        currentDay = 0;
    }

    // ---- customers

    public int addCustomer(int rule, int convention, int rate)
            throws IllegalArgumentException, IllegalStateException {
        requireRange(rule, 0, LAST_RULE);
        requireRange(convention, 0, LAST_CONVENTION);
        requireRange(rate, 0, MAX_RATE);
        requireRoom(customerList.size(), MAX_CUSTOMERS);
        customerList.add(new Customer(rule, convention, rate));
        return customerList.size() - 1;
    }

    public int setRule(int customer, int rule)
            throws IndexOutOfBoundsException, IllegalArgumentException {
        Customer owner = customerAt(customer);
        requireRange(rule, 0, LAST_RULE);
        int before = owner.rule;
        owner.rule = rule;
        return before;
    }

    public int setRate(int customer, int rate)
            throws IndexOutOfBoundsException, IllegalArgumentException {
        Customer owner = customerAt(customer);
        requireRange(rate, 0, MAX_RATE);
        int before = owner.rate;
        owner.rate = rate;
        return before;
    }

    public int pauseReminders(int customer, int days)
            throws IndexOutOfBoundsException, IllegalArgumentException {
        Customer owner = customerAt(customer);
        requireRange(days, 0, MAX_PAUSE);
        owner.pauseEnd = currentDay + days;
        return owner.pauseEnd;
    }

    // ---- days

    public int today() {
        return currentDay;
    }

    public int passDays(int days) throws IllegalArgumentException, IllegalStateException {
        requireRange(days, 1, MAX_DAYS_AT_ONCE);
        requireState(currentDay + days <= LAST_DAY);
        for (int i = 0; i < days; i++) {
            passOneDay();
        }
        return currentDay;
    }

    public int countDays(int convention, int from, int to) throws IllegalArgumentException {
        requireRange(convention, 0, LAST_CONVENTION);
        requireRange(from, 0, LAST_DAY);
        requireRange(to, from, LAST_DAY);
        return DayCount.daysBetween(convention, from, to);
    }

    private void passOneDay() {
        for (int i = 0; i < invoiceList.size(); i++) {
            invoiceList.get(i).accrueOn(currentDay);
        }
        for (int i = 0; i < invoiceList.size(); i++) {
            invoiceList.get(i).waitOn(currentDay);
        }
        currentDay++;
    }

    // ---- postings

    public int postInvoice(int customer, int amount, int term)
            throws IndexOutOfBoundsException, IllegalArgumentException, IllegalStateException {
        Customer owner = customerAt(customer);
        requireRange(amount, 1, MAX_AMOUNT);
        requireRange(term, 0, MAX_TERM);
        requireRoom(invoiceList.size(), MAX_INVOICES);
        return enterInvoice(new Invoice(owner, amount, currentDay + term, false));
    }

    public int postPayment(int customer, int amount)
            throws IndexOutOfBoundsException, IllegalArgumentException, IllegalStateException {
        Customer owner = customerAt(customer);
        requireRange(amount, 1, MAX_AMOUNT);
        requireRoom(paymentList.size(), MAX_PAYMENTS);
        Payment posted = new Payment(owner, amount);
        paymentList.add(posted);
        allocateByRule(posted);
        return paymentList.size() - 1;
    }

    public int allocate(int payment, int invoice, int amount)
            throws IndexOutOfBoundsException, IllegalArgumentException, IllegalStateException {
        Payment source = paymentAt(payment);
        Invoice target = invoiceAt(invoice);
        requireCent(amount);
        requireState(target.owner == source.owner);
        requireState(amount <= source.unspent());
        requireState(amount <= target.openAmount());
        moveToInvoice(source, invoice, amount);
        return target.openAmount();
    }

    public int allocateRest(int customer) throws IndexOutOfBoundsException {
        Customer owner = customerAt(customer);
        int sum = 0;
        for (int i = 0; i < paymentList.size(); i++) {
            Payment source = paymentList.get(i);
            if (source.owner == owner) {
                sum += allocateByRule(source);
            }
        }
        return sum;
    }

    public int release(int payment, int invoice) throws IndexOutOfBoundsException {
        Payment source = paymentAt(payment);
        invoiceAt(invoice);
        return takeBack(source, invoice);
    }

    public int reverse(int payment) throws IndexOutOfBoundsException, IllegalStateException {
        Payment source = paymentAt(payment);
        requireState(!source.reversed);
        int sum = 0;
        for (int i = 0; i < invoiceList.size(); i++) {
            sum += takeBack(source, i);
        }
        source.reversed = true;
        return sum;
    }

    private int enterInvoice(Invoice invoice) {
        int number = invoiceList.size();
        invoiceList.add(invoice);
        ledger.write(number, invoice.amount);
        return number;
    }

    private int allocateByRule(Payment source) {
        int rest = source.unspent();
        weighClearAmounts(source.owner);
        if (source.owner.rule == OLDEST_FIRST) {
            shareOldestFirst(rest);
        } else if (source.owner.rule == BY_SHARE) {
            shares.splitUpToWeights(rest);
        }
        int sum = 0;
        for (int i = 0; i < invoiceList.size(); i++) {
            int part = shares.partOf(i);
            moveToInvoice(source, i, part);
            sum += part;
        }
        return sum;
    }

    private void weighClearAmounts(Customer owner) {
        shares.reset();
        for (int i = 0; i < invoiceList.size(); i++) {
            Invoice invoice = invoiceList.get(i);
            if (invoice.owner == owner) {
                shares.setWeight(i, invoice.clearAmount());
            }
        }
    }

    private void shareOldestFirst(int amount) {
        int rest = amount;
        for (int i = 0; i < invoiceList.size() && rest > 0; i++) {
            int next = oldestWithoutPart();
            if (next < 0) {
                return;
            }
            rest -= shares.fill(next, rest);
        }
    }

    /** The invoice that has a weight and no part yet and is due first; -1 if there is none. */
    private int oldestWithoutPart() {
        int best = -1;
        int bestDay = 0;
        for (int i = 0; i < invoiceList.size(); i++) {
            int day = invoiceList.get(i).dueDay;
            if (shares.wantsPart(i) && (best < 0 || day < bestDay)) {
                best = i;
                bestDay = day;
            }
        }
        return best;
    }

    private void moveToInvoice(Payment source, int invoice, int amount) {
        if (amount > 0 && invoice >= 0 && invoice < invoiceList.size()) {
            source.spend(invoice, amount);
            invoiceList.get(invoice).pay(amount);
            ledger.write(invoice, -amount);
        }
    }

    private int takeBack(Payment source, int invoice) {
        int amount = source.spentOn(invoice);
        if (amount > 0 && invoice >= 0 && invoice < invoiceList.size()) {
            source.spend(invoice, -amount);
            invoiceList.get(invoice).unpay(amount);
            ledger.write(invoice, amount);
        }
        return amount;
    }

    // ---- disputes

    public int dispute(int invoice, int amount)
            throws IndexOutOfBoundsException, IllegalArgumentException, IllegalStateException {
        Invoice target = invoiceAt(invoice);
        requireCent(amount);
        requireState(amount <= target.clearAmount());
        target.disputed += amount;
        return target.disputed;
    }

    public int disputeAll(int customer, int amount)
            throws IndexOutOfBoundsException, IllegalArgumentException, IllegalStateException {
        Customer owner = customerAt(customer);
        requireCent(amount);
        weighClearAmounts(owner);
        requireState(amount <= shares.sumOfWeights());
        shares.splitInProportion(amount);
        int grown = 0;
        for (int i = 0; i < invoiceList.size(); i++) {
            int part = shares.partOf(i);
            if (part > 0) {
                invoiceList.get(i).disputed += part;
                grown++;
            }
        }
        return grown;
    }

    public int settle(int invoice, int granted)
            throws IndexOutOfBoundsException, IllegalStateException, IllegalArgumentException {
        Invoice target = invoiceAt(invoice);
        requireState(target.disputed > 0);
        requireRange(granted, 0, target.disputed);
        target.settleWith(granted);
        ledger.write(invoice, -granted);
        return target.openAmount();
    }

    // ---- interest

    public int chargeInterest(int customer, int term)
            throws IndexOutOfBoundsException, IllegalArgumentException, IllegalStateException {
        Customer owner = customerAt(customer);
        requireRange(term, 0, MAX_TERM);
        int sum = accruedOfAll(owner);
        if (sum == 0) {
            return -1;
        }
        requireRoom(invoiceList.size(), MAX_INVOICES);
        for (int i = 0; i < invoiceList.size(); i++) {
            Invoice invoice = invoiceList.get(i);
            if (invoice.owner == owner) {
                invoice.dropAccruedCents();
            }
        }
        return enterInvoice(new Invoice(owner, sum, currentDay + term, true));
    }

    public int accrued(int invoice) throws IndexOutOfBoundsException {
        return invoiceAt(invoice).accruedCents();
    }

    public boolean isInterest(int invoice) throws IndexOutOfBoundsException {
        return invoiceAt(invoice).interest;
    }

    private int accruedOfAll(Customer owner) {
        int sum = 0;
        for (int i = 0; i < invoiceList.size(); i++) {
            Invoice invoice = invoiceList.get(i);
            if (invoice.owner == owner) {
                sum += invoice.accruedCents();
            }
        }
        return sum;
    }

    // ---- invoices and payments

    public int customers() {
        return customerList.size();
    }

    public int invoices() {
        return invoiceList.size();
    }

    public int payments() {
        return paymentList.size();
    }

    public int amountOf(int invoice) throws IndexOutOfBoundsException {
        return invoiceAt(invoice).amount;
    }

    public int dueDay(int invoice) throws IndexOutOfBoundsException {
        return invoiceAt(invoice).dueDay;
    }

    public int openOf(int invoice) throws IndexOutOfBoundsException {
        return invoiceAt(invoice).openAmount();
    }

    public int openByLedger(int invoice) throws IndexOutOfBoundsException {
        invoiceAt(invoice);
        return ledger.sumOf(invoice);
    }

    public int disputedOf(int invoice) throws IndexOutOfBoundsException {
        return invoiceAt(invoice).disputed;
    }

    public int allocated(int payment, int invoice) throws IndexOutOfBoundsException {
        Payment source = paymentAt(payment);
        invoiceAt(invoice);
        return source.spentOn(invoice);
    }

    public int unallocated(int payment) throws IndexOutOfBoundsException {
        return paymentAt(payment).unspent();
    }

    // ---- what customers owe

    public int balance(int customer) throws IndexOutOfBoundsException {
        Customer owner = customerAt(customer);
        int sum = 0;
        for (int i = 0; i < invoiceList.size(); i++) {
            Invoice invoice = invoiceList.get(i);
            if (invoice.owner == owner) {
                sum += invoice.openAmount();
            }
        }
        for (int i = 0; i < paymentList.size(); i++) {
            Payment source = paymentList.get(i);
            if (source.owner == owner) {
                sum -= source.unspent();
            }
        }
        return sum;
    }

    public int bucketOf(int invoice) throws IndexOutOfBoundsException {
        return invoiceAt(invoice).bucketOn(currentDay);
    }

    public int ageing(int customer, int bucket) throws IndexOutOfBoundsException {
        Customer owner = customerAt(customer);
        requireIndex(bucket, LAST_BUCKET + 1);
        int sum = 0;
        for (int i = 0; i < invoiceList.size(); i++) {
            Invoice invoice = invoiceList.get(i);
            if (invoice.owner == owner && invoice.bucketOn(currentDay) == bucket) {
                sum += invoice.openAmount();
            }
        }
        return sum;
    }

    public int oldest(int customer) throws IndexOutOfBoundsException {
        weighClearAmounts(customerAt(customer));
        return oldestWithoutPart();
    }

    // ---- reminders

    public int levelOf(int invoice) throws IndexOutOfBoundsException {
        return invoiceAt(invoice).level;
    }

    public int daysToReminder(int invoice) throws IndexOutOfBoundsException {
        return invoiceAt(invoice).daysToNextLevel(currentDay);
    }

    public int invoicesAt(int level) throws IllegalArgumentException {
        requireRange(level, 0, LAST_LEVEL);
        int found = 0;
        for (int i = 0; i < invoiceList.size(); i++) {
            if (invoiceList.get(i).level == level) {
                found++;
            }
        }
        return found;
    }

    // ---- the ledger

    public int ledgerLines() {
        return ledger.count;
    }

    public int lineInvoice(int line) throws IndexOutOfBoundsException {
        requireIndex(line, ledger.count);
        return ledger.invoiceIn(line);
    }

    public int lineAmount(int line) throws IndexOutOfBoundsException {
        requireIndex(line, ledger.count);
        return ledger.amountIn(line);
    }

    // ---- looking up and checking

    private Customer customerAt(int number) {
        requireIndex(number, customerList.size());
        return customerList.get(number);
    }

    private Invoice invoiceAt(int number) {
        requireIndex(number, invoiceList.size());
        return invoiceList.get(number);
    }

    private Payment paymentAt(int number) {
        requireIndex(number, paymentList.size());
        return paymentList.get(number);
    }

    private static void requireIndex(int index, int size) {
        if (index < 0 || index >= size) {
            throw new IndexOutOfBoundsException("no such number");
        }
    }

    private static void requireRange(int value, int least, int greatest) {
        if (value < least || value > greatest) {
            throw new IllegalArgumentException("out of range");
        }
    }

    private static void requireCent(int amount) {
        if (amount < 1) {
            throw new IllegalArgumentException("no cent at all");
        }
    }

    private static void requireRoom(int count, int limit) {
        if (count >= limit) {
            throw new IllegalStateException("the book is full");
        }
    }

    private static void requireState(boolean holds) {
        if (!holds) {
            throw new IllegalStateException("not possible as things stand");
        }
    }

    private static final class Customer {
        final int convention;
        int rule;
        int rate;
        /** The first day on which reminders are not paused; a day that is over means no pause. */
        int pauseEnd;

        Customer(int rule, int convention, int rate) {
            this.rule = rule;
            this.convention = convention;
            this.rate = rate;
        }

        /** How much of an accrued sum, in cents times basis points times days, makes a cent. */
        long sumOfOneCent() {
            return (long) BASIS_POINTS * DayCount.daysOfYear(convention);
        }
    }

    private static final class Invoice {
        final Customer owner;
        final int amount;
        final int dueDay;
        final boolean interest;
        int disputed;
        int level;
        private int paid;
        private int credited;
        private int waited;
        private long accruedSum;

        Invoice(Customer owner, int amount, int dueDay, boolean interest) {
            this.owner = owner;
            this.amount = amount;
            this.dueDay = dueDay;
            this.interest = interest;
        }

        int openAmount() {
            return amount - credited - paid;
        }

        int clearAmount() {
            return openAmount() - disputed;
        }

        void pay(int cents) {
            paid += cents;
            disputed = Math.min(disputed, openAmount());
            waited = 0;
            forgetRemindersIfPaid();
        }

        void unpay(int cents) {
            paid -= cents;
        }

        void settleWith(int granted) {
            credited += granted;
            disputed = 0;
            forgetRemindersIfPaid();
        }

        private void forgetRemindersIfPaid() {
            if (openAmount() == 0) {
                level = 0;
                waited = 0;
            }
        }

        void accrueOn(int day) {
            if (!interest && dueDay <= day) {
                int days = DayCount.daysBetween(owner.convention, day, day + 1);
                accruedSum += (long) clearAmount() * owner.rate * days;
            }
        }

        int accruedCents() {
            long oneCent = owner.sumOfOneCent();
            return oneCent > 0 ? (int) (accruedSum / oneCent) : 0;
        }

        void dropAccruedCents() {
            accruedSum -= accruedCents() * owner.sumOfOneCent();
        }

        void waitOn(int day) {
            if (canBeReminded() && dueDay <= day && owner.pauseEnd <= day) {
                waited++;
                if (waited >= waitOfLevel()) {
                    level++;
                    waited = 0;
                }
            }
        }

        int daysToNextLevel(int day) {
            if (!canBeReminded()) {
                return -1;
            }
            int firstWaitingDay = Math.max(day, Math.max(dueDay, owner.pauseEnd));
            return firstWaitingDay - day + waitOfLevel() - waited;
        }

        private boolean canBeReminded() {
            return level < LAST_LEVEL && openAmount() > 0 && disputed == 0;
        }

        private int waitOfLevel() {
            if (level == 0) {
                return 7;
            }
            return level < 3 ? 14 : 21;
        }

        int bucketOn(int day) {
            int late = day - dueDay;
            if (late <= 0) {
                return 0;
            }
            if (late <= 30) {
                return 1;
            }
            if (late <= 60) {
                return 2;
            }
            return late <= 90 ? 3 : LAST_BUCKET;
        }
    }

    private static final class Payment {
        final Customer owner;
        boolean reversed;
        private final int amount;
        private final int[] spentByInvoice = new int[MAX_INVOICES];
        private int spent;

        Payment(Customer owner, int amount) {
            this.owner = owner;
            this.amount = amount;
        }

        int unspent() {
            return reversed ? 0 : amount - spent;
        }

        int spentOn(int invoice) {
            if (invoice < 0 || invoice >= spentByInvoice.length) {
                return 0;
            }
            return spentByInvoice[invoice];
        }

        void spend(int invoice, int cents) {
            if (invoice >= 0 && invoice < spentByInvoice.length) {
                spentByInvoice[invoice] += cents;
                spent += cents;
            }
        }
    }

    /** Parts of an amount for the invoices by their numbers; one row, used again at each call. */
    private static final class Shares {
        private final int[] weights = new int[MAX_INVOICES];
        private final int[] parts = new int[MAX_INVOICES];
        private final long[] remainders = new long[MAX_INVOICES];

        void reset() {
            Arrays.fill(weights, 0);
            Arrays.fill(parts, 0);
        }

        private boolean has(int invoice) {
            return invoice >= 0 && invoice < weights.length
                    && invoice < parts.length && invoice < remainders.length;
        }

        void setWeight(int invoice, int weight) {
            if (has(invoice)) {
                weights[invoice] = weight;
            }
        }

        int partOf(int invoice) {
            return has(invoice) ? parts[invoice] : 0;
        }

        boolean wantsPart(int invoice) {
            return has(invoice) && weights[invoice] > 0 && parts[invoice] == 0;
        }

        /** Gives an invoice as much of the rest as its weight allows, and returns how much. */
        int fill(int invoice, int rest) {
            if (!has(invoice)) {
                return 0;
            }
            parts[invoice] = Math.min(weights[invoice], rest);
            return parts[invoice];
        }

        long sumOfWeights() {
            long sum = 0;
            for (int i = 0; i < weights.length; i++) {
                sum += weights[i];
            }
            return sum;
        }

        void splitUpToWeights(int amount) {
            splitInProportion((int) Math.min(amount, sumOfWeights()));
        }

        void splitInProportion(int amount) {
            long sum = sumOfWeights();
            if (sum <= 0) {
                return;
            }
            int left = amount;
            for (int i = 0; i < MAX_INVOICES && has(i); i++) {
                long product = (long) amount * weights[i];
                parts[i] = (int) (product / sum);
                remainders[i] = product % sum;
                left -= parts[i];
            }
            for (int i = 0; i < left; i++) {
                giveCentToGreatestRemainder();
            }
        }

        private void giveCentToGreatestRemainder() {
            int best = -1;
            long greatest = 0;
            for (int i = 0; i < remainders.length; i++) {
                if (remainders[i] > greatest) {
                    best = i;
                    greatest = remainders[i];
                }
            }
            if (has(best)) {
                parts[best]++;
                remainders[best] = 0;
            }
        }
    }

    private static final class Ledger {
        private static final int FIRST_ROOM = 64;
        /** More lines than 512 calls can write: see NOTES.md for the count. */
        private static final int MAX_LINES = 16384;

        int count;
        private int[] invoiceNumbers = new int[FIRST_ROOM];
        private int[] amounts = new int[FIRST_ROOM];

        void write(int invoice, int amount) {
            if (amount == 0 || count >= MAX_LINES) {
                return;
            }
            if (!hasRoom()) {
                doubleRoom();
            }
            if (hasRoom()) {
                invoiceNumbers[count] = invoice;
                amounts[count] = amount;
                count++;
            }
        }

        private boolean hasRoom() {
            return count >= 0 && count < invoiceNumbers.length && count < amounts.length;
        }

        private void doubleRoom() {
            int room = Math.min(2 * count, MAX_LINES);
            if (room > count) {
                invoiceNumbers = Arrays.copyOf(invoiceNumbers, room);
                amounts = Arrays.copyOf(amounts, room);
            }
        }

        int sumOf(int invoice) {
            int sum = 0;
            for (int i = 0; i < count; i++) {
                if (invoiceIn(i) == invoice) {
                    sum += amountIn(i);
                }
            }
            return sum;
        }

        int invoiceIn(int line) {
            return line >= 0 && line < invoiceNumbers.length ? invoiceNumbers[line] : 0;
        }

        int amountIn(int line) {
            return line >= 0 && line < amounts.length ? amounts[line] : 0;
        }
    }

    /** Days from 0, January 1, 2001, to 1460, December 31, 2004. */
    private static final class DayCount {
        private static final int[] MONTH_DAYS = {31, 28, 31, 30, 31, 30, 31, 31, 30, 31, 30, 31};
        private static final int COMMON_YEAR = 365;
        private static final int LEAP_YEAR_INDEX = 3;
        private static final int FEBRUARY = 1;
        private static final int THIRTY_DAY_MONTHS = 2;

        static int daysOfYear(int convention) {
            return convention == 0 ? 365 : 360;
        }

        static int daysBetween(int convention, int from, int to) {
            if (convention == THIRTY_DAY_MONTHS) {
                return thirtyDayNumber(to) - thirtyDayNumber(from);
            }
            return to - from;
        }

        private static int thirtyDayNumber(int day) {
            int year = Math.min(day / COMMON_YEAR, LEAP_YEAR_INDEX);
            int dayOfMonth = day - year * COMMON_YEAR;
            int month = 0;
            while (month < MONTH_DAYS.length - 1 && dayOfMonth >= monthLength(year, month)) {
                dayOfMonth -= monthLength(year, month);
                month++;
            }
            return 360 * year + 30 * month + Math.min(dayOfMonth + 1, 30);
        }

        private static int monthLength(int year, int month) {
            if (month < 0 || month >= MONTH_DAYS.length) {
                return 0;
            }
            boolean leapDay = year == LEAP_YEAR_INDEX && month == FEBRUARY;
            return leapDay ? MONTH_DAYS[month] + 1 : MONTH_DAYS[month];
        }
    }
}
