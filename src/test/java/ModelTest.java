import java.math.BigInteger;
import java.time.LocalDate;
import java.util.ArrayList;
import java.util.Arrays;
import java.util.Comparator;
import java.util.List;

/**
 * Long runs of calls, drawn by a fixed rule, answered by the book and by a plain model of the
 * document that is written another way (dates by java.time, shares by BigInteger and sorting,
 * reminders by walking the days). Every answer, every exception and the whole state must agree.
 */
public final class ModelTest {
    private static final int RUNS = 400;
    private static final int CALLS = 512;

    private long seed;

    private ModelTest(long seed) {
        this.seed = seed;
    }

    public static void main(String[] args) {
        for (int run = 1; run <= RUNS; run++) {
            if (!new ModelTest(run * 7919L).agrees(run)) {
                break;
            }
        }
        Check.end("ModelTest");
    }

    private int draw(int from, int to) {
        seed = seed * 6364136223846793005L + 1442695040888963407L;
        return from + (int) Long.remainderUnsigned(seed >>> 20, (long) to - from + 1);
    }

    private boolean agrees(int run) {
        ReceivablesBook book = new ReceivablesBook();
        Model model = new Model();
        int style = run % 5;
        for (int i = 0; i < CALLS; i++) {
            Object[] call = nextCall(model, style, i);
            String want = answerOf(model, call);
            String got = answerOf(book, call);
            String state = model.picture();
            String seen = Check.picture(book);
            boolean same = want.equals(got) && state.equals(seen);
            String told = same ? "" : "run " + run + ", call " + i + " " + Arrays.toString(call)
                    + " answered " + got + ", due is " + want + "\n" + seen + "\ndue is\n" + state;
            Check.isTrue(told, same);
            if (!same) {
                return false;
            }
        }
        return true;
    }

    private int customer(Model m) {
        return draw(0, 19) == 0 ? draw(-1, 6) : draw(0, Math.max(0, m.customers.size() - 1));
    }

    private int invoice(Model m) {
        return draw(0, 29) == 0 ? draw(-1, 24) : draw(0, Math.max(0, m.invoices.size() - 1));
    }

    private int payment(Model m) {
        return draw(0, 29) == 0 ? draw(-1, 24) : draw(0, Math.max(0, m.payments.size() - 1));
    }

    private int amount(int style) {
        switch (draw(0, 12)) {
            case 0:
                return draw(-1, 1);
            case 1:
                return draw(9999999, 10000001);
            case 2:
                return draw(0, 9) == 0 ? Integer.MAX_VALUE : 7;
            default:
                return style == 1 ? draw(1, 9) : style == 2 ? draw(1000000, 10000000) : draw(1, 2000);
        }
    }

    private int days(int style) {
        int kind = draw(0, 40);
        if (kind == 0) {
            return draw(-1, 401);
        }
        return kind < 5 ? draw(1, 30) : style == 3 ? 1 : draw(1, 7);
    }

    private Object[] nextCall(Model m, int style, int i) {
        if (i < 2) {
            return new Object[] {"addCustomer", draw(0, 2), draw(0, 2), draw(0, 3000)};
        }
        if (style == 4 && i < 6) {
            return new Object[] {"passDays", i < 5 ? 400 : draw(100, 250)};
        }
        switch (draw(0, 32)) {
            case 0:
                return draw(0, 3) == 0
                        ? new Object[] {"addCustomer", draw(-1, 3), draw(-1, 3), draw(-1, 3001)}
                        : new Object[] {"setRate", customer(m), draw(0, 9) == 0 ? draw(-5, 3005) : draw(0, 3000)};
            case 1:
                return new Object[] {"setRule", customer(m), draw(0, 9) == 0 ? draw(-1, 3) : draw(0, 2)};
            case 2:
                return new Object[] {"pauseReminders", customer(m), draw(0, 9) == 0 ? draw(-1, 201) : draw(0, 20)};
            case 3: case 4: case 5: case 6:
                return new Object[] {"passDays", days(style)};
            case 7: case 8:
                return new Object[] {"countDays", draw(-1, 3), draw(0, 700), draw(650, 1461)};
            case 9: case 10: case 11:
                return new Object[] {"postInvoice", customer(m), amount(style), draw(0, 9) == 0 ? draw(-1, 121) : draw(0, 15)};
            case 12: case 13:
                return new Object[] {"postPayment", customer(m), amount(style)};
            case 14: case 15: case 16: case 17: case 18:
                return handAllocation(m, style);
            case 19: case 20: case 21:
                return new Object[] {"allocateRest", customer(m)};
            case 22: case 23: case 24: case 25:
                return new Object[] {"release", payment(m), invoice(m)};
            case 26:
                return draw(0, 2) == 0 ? new Object[] {"reverse", payment(m)} : new Object[] {"oldest", customer(m)};
            case 27:
                return newDispute(m, style);
            case 28:
                return new Object[] {"disputeAll", customer(m), draw(0, 2) == 0 ? amount(style) : draw(1, 50)};
            case 29: case 30:
                return newSettlement(m);
            case 31:
                return new Object[] {"chargeInterest", customer(m), draw(0, 4) == 0 ? draw(-1, 121) : draw(0, 9)};
            default:
                return question(m);
        }
    }

    private Object[] handAllocation(Model m, int style) {
        int p = payment(m);
        int i = invoice(m);
        boolean known = p >= 0 && p < m.payments.size() && i >= 0 && i < m.invoices.size();
        if (!known || draw(0, 2) == 0) {
            return new Object[] {"allocate", p, i, amount(style)};
        }
        int most = Math.min(m.unallocated(p), m.open(i));
        return new Object[] {"allocate", p, i, draw(0, 1) == 0 ? most : draw(Math.min(1, most), most + 1)};
    }

    private Object[] newDispute(Model m, int style) {
        int i = invoice(m);
        boolean known = i >= 0 && i < m.invoices.size();
        return new Object[] {"dispute", i, known && draw(0, 2) > 0 ? draw(0, m.clear(i) + 1) : amount(style)};
    }

    private Object[] newSettlement(Model m) {
        int i = invoice(m);
        boolean known = i >= 0 && i < m.invoices.size();
        return new Object[] {"settle", i, known ? draw(-1, m.invoices.get(i).disputed + 1) : 0};
    }

    private Object[] question(Model m) {
        switch (draw(0, 13)) {
            case 0:
                return new Object[] {"accrued", invoice(m)};
            case 1:
                return new Object[] {"isInterest", invoice(m)};
            case 2:
                return new Object[] {"amountOf", invoice(m)};
            case 3:
                return new Object[] {"dueDay", invoice(m)};
            case 4:
                return new Object[] {"openOf", invoice(m)};
            case 5:
                return new Object[] {"openByLedger", invoice(m)};
            case 6:
                return new Object[] {"disputedOf", invoice(m)};
            case 7:
                return new Object[] {"allocated", payment(m), invoice(m)};
            case 8:
                return new Object[] {"unallocated", payment(m)};
            case 9:
                return new Object[] {"balance", customer(m)};
            case 10:
                return new Object[] {"ageing", customer(m), draw(-1, 5)};
            case 11:
                return new Object[] {"invoicesAt", draw(-1, 5)};
            case 12:
                return new Object[] {"daysToReminder", invoice(m)};
            default:
                return new Object[] {"lineAmount", draw(-1, m.lines.size())};
        }
    }

    private static String answerOf(ReceivablesBook b, Object[] call) {
        int x = (Integer) call[1];
        int y = call.length > 2 ? (Integer) call[2] : 0;
        int z = call.length > 3 ? (Integer) call[3] : 0;
        try {
            switch ((String) call[0]) {
                case "addCustomer": return "" + b.addCustomer(x, y, z);
                case "setRule": return "" + b.setRule(x, y);
                case "setRate": return "" + b.setRate(x, y);
                case "pauseReminders": return "" + b.pauseReminders(x, y);
                case "passDays": return "" + b.passDays(x);
                case "countDays": return "" + b.countDays(x, y, z);
                case "postInvoice": return "" + b.postInvoice(x, y, z);
                case "postPayment": return "" + b.postPayment(x, y);
                case "allocate": return "" + b.allocate(x, y, z);
                case "allocateRest": return "" + b.allocateRest(x);
                case "release": return "" + b.release(x, y);
                case "reverse": return "" + b.reverse(x);
                case "dispute": return "" + b.dispute(x, y);
                case "disputeAll": return "" + b.disputeAll(x, y);
                case "settle": return "" + b.settle(x, y);
                case "chargeInterest": return "" + b.chargeInterest(x, y);
                case "accrued": return "" + b.accrued(x);
                case "isInterest": return "" + b.isInterest(x);
                case "amountOf": return "" + b.amountOf(x);
                case "dueDay": return "" + b.dueDay(x);
                case "openOf": return "" + b.openOf(x);
                case "openByLedger": return "" + b.openByLedger(x);
                case "disputedOf": return "" + b.disputedOf(x);
                case "allocated": return "" + b.allocated(x, y);
                case "unallocated": return "" + b.unallocated(x);
                case "balance": return "" + b.balance(x);
                case "ageing": return "" + b.ageing(x, y);
                case "oldest": return "" + b.oldest(x);
                case "invoicesAt": return "" + b.invoicesAt(x);
                case "daysToReminder": return "" + b.daysToReminder(x);
                default: return "" + b.lineAmount(x);
            }
        } catch (RuntimeException e) {
            return Check.nameOf(e);
        }
    }

    private static String answerOf(Model m, Object[] call) {
        int x = (Integer) call[1];
        int y = call.length > 2 ? (Integer) call[2] : 0;
        int z = call.length > 3 ? (Integer) call[3] : 0;
        String refusal = m.refusal((String) call[0], x, y, z);
        return refusal != null ? refusal : m.answer((String) call[0], x, y, z);
    }

    private static final class Client {
        int rule;
        int convention;
        int rate;
        int pausedUpTo = -1;
    }

    private static final class Bill {
        int client;
        int amount;
        int due;
        boolean interest;
        int credited;
        int disputed;
        int level;
        int wait;
        BigInteger sum = BigInteger.ZERO;
    }

    private static final class Money {
        int client;
        int amount;
        boolean reversed;
        int[] to = new int[24];
    }

    private static final class Model {
        static final String INDEX = "IndexOutOfBoundsException";
        static final String ARGUMENT = "IllegalArgumentException";
        static final String STATE = "IllegalStateException";

        final List<Client> customers = new ArrayList<>();
        final List<Bill> invoices = new ArrayList<>();
        final List<Money> payments = new ArrayList<>();
        final List<int[]> lines = new ArrayList<>();
        int day = 0;

        boolean noCustomer(int x) {
            return x < 0 || x >= customers.size();
        }

        boolean noInvoice(int x) {
            return x < 0 || x >= invoices.size();
        }

        boolean noPayment(int x) {
            return x < 0 || x >= payments.size();
        }

        static boolean in(int v, int lo, int hi) {
            return lo <= v && v <= hi;
        }

        static String first(String... found) {
            for (String one : found) {
                if (one != null) {
                    return one;
                }
            }
            return null;
        }

        String refusal(String name, int x, int y, int z) {
            switch (name) {
                case "addCustomer":
                    return first(in(x, 0, 2) && in(y, 0, 2) && in(z, 0, 3000) ? null : ARGUMENT,
                            customers.size() == 6 ? STATE : null);
                case "setRule":
                    return first(noCustomer(x) ? INDEX : null, in(y, 0, 2) ? null : ARGUMENT);
                case "setRate":
                    return first(noCustomer(x) ? INDEX : null, in(y, 0, 3000) ? null : ARGUMENT);
                case "pauseReminders":
                    return first(noCustomer(x) ? INDEX : null, in(y, 0, 200) ? null : ARGUMENT);
                case "passDays":
                    return first(in(x, 1, 400) ? null : ARGUMENT, day + x > 1460 ? STATE : null);
                case "countDays":
                    return in(x, 0, 2) && in(y, 0, 1460) && in(z, y, 1460) ? null : ARGUMENT;
                case "postInvoice":
                    return first(noCustomer(x) ? INDEX : null,
                            in(y, 1, 10000000) && in(z, 0, 120) ? null : ARGUMENT,
                            invoices.size() == 24 ? STATE : null);
                case "postPayment":
                    return first(noCustomer(x) ? INDEX : null, in(y, 1, 10000000) ? null : ARGUMENT,
                            payments.size() == 24 ? STATE : null);
                case "allocate":
                    if (noPayment(x) || noInvoice(y)) {
                        return INDEX;
                    }
                    return first(z < 1 ? ARGUMENT : null,
                            payments.get(x).client != invoices.get(y).client || z > unallocated(x) || z > open(y)
                                    ? STATE : null);
                case "release": case "allocated":
                    return noPayment(x) || noInvoice(y) ? INDEX : null;
                case "unallocated":
                    return noPayment(x) ? INDEX : null;
                case "reverse":
                    return noPayment(x) ? INDEX : payments.get(x).reversed ? STATE : null;
                case "dispute":
                    return noInvoice(x) ? INDEX : y < 1 ? ARGUMENT : y > clear(x) ? STATE : null;
                case "disputeAll":
                    return noCustomer(x) ? INDEX : y < 1 ? ARGUMENT
                            : BigInteger.valueOf(y).compareTo(total(clearOnes(x))) > 0 ? STATE : null;
                case "settle":
                    return noInvoice(x) ? INDEX : invoices.get(x).disputed == 0 ? STATE
                            : in(y, 0, invoices.get(x).disputed) ? null : ARGUMENT;
                case "chargeInterest":
                    return noCustomer(x) ? INDEX : !in(y, 0, 120) ? ARGUMENT
                            : invoices.size() == 24 && interestOf(x) > 0 ? STATE : null;
                case "allocateRest": case "balance": case "oldest":
                    return noCustomer(x) ? INDEX : null;
                case "ageing":
                    return noCustomer(x) || !in(y, 0, 4) ? INDEX : null;
                case "invoicesAt":
                    return in(x, 0, 4) ? null : ARGUMENT;
                case "lineAmount":
                    return x < 0 || x >= lines.size() ? INDEX : null;
                default:
                    return noInvoice(x) ? INDEX : null;
            }
        }

        String answer(String name, int x, int y, int z) {
            switch (name) {
                case "addCustomer": {
                    Client c = new Client();
                    c.rule = x;
                    c.convention = y;
                    c.rate = z;
                    customers.add(c);
                    return "" + (customers.size() - 1);
                }
                case "setRule": {
                    int before = customers.get(x).rule;
                    customers.get(x).rule = y;
                    return "" + before;
                }
                case "setRate": {
                    int before = customers.get(x).rate;
                    customers.get(x).rate = y;
                    return "" + before;
                }
                case "pauseReminders":
                    customers.get(x).pausedUpTo = day + y - 1;
                    return "" + (day + y);
                case "passDays":
                    for (int i = 0; i < x; i++) {
                        pass();
                    }
                    return "" + day;
                case "countDays": return "" + count(x, y, z);
                case "postInvoice": return "" + post(x, y, day + z, false);
                case "postPayment": {
                    Money p = new Money();
                    p.client = x;
                    p.amount = y;
                    payments.add(p);
                    byRule(payments.size() - 1);
                    return "" + (payments.size() - 1);
                }
                case "allocate":
                    give(x, y, z);
                    return "" + open(y);
                case "allocateRest": {
                    int sum = 0;
                    for (int p = 0; p < payments.size(); p++) {
                        sum += payments.get(p).client == x ? byRule(p) : 0;
                    }
                    return "" + sum;
                }
                case "release": return "" + back(x, y);
                case "reverse": {
                    int sum = 0;
                    for (int i = 0; i < invoices.size(); i++) {
                        sum += back(x, i);
                    }
                    payments.get(x).reversed = true;
                    return "" + sum;
                }
                case "dispute":
                    invoices.get(x).disputed += y;
                    return "" + invoices.get(x).disputed;
                case "disputeAll": {
                    List<Integer> ones = clearOnes(x);
                    int[] parts = split(y, ones);
                    int grown = 0;
                    for (int k = 0; k < parts.length; k++) {
                        invoices.get(ones.get(k)).disputed += parts[k];
                        grown += parts[k] > 0 ? 1 : 0;
                    }
                    return "" + grown;
                }
                case "settle": {
                    Bill b = invoices.get(x);
                    b.disputed = 0;
                    b.credited += y;
                    line(x, -y);
                    if (open(x) == 0) {
                        b.level = 0;
                        b.wait = 0;
                    }
                    return "" + open(x);
                }
                case "chargeInterest": {
                    int sum = interestOf(x);
                    if (sum == 0) {
                        return "-1";
                    }
                    for (Bill b : invoices) {
                        b.sum = b.client == x ? b.sum.mod(unit(b)) : b.sum;
                    }
                    return "" + post(x, sum, day + y, true);
                }
                case "lineAmount": return "" + lines.get(x)[1];
                default: return question(name, x, y);
            }
        }

        String question(String name, int x, int y) {
            switch (name) {
                case "accrued": return "" + accrued(x);
                case "isInterest": return "" + invoices.get(x).interest;
                case "amountOf": return "" + invoices.get(x).amount;
                case "dueDay": return "" + invoices.get(x).due;
                case "openOf": return "" + open(x);
                case "openByLedger": return "" + byLedger(x);
                case "disputedOf": return "" + invoices.get(x).disputed;
                case "allocated": return "" + payments.get(x).to[y];
                case "unallocated": return "" + unallocated(x);
                case "balance": return "" + balance(x);
                case "ageing": return "" + ageing(x, y);
                case "oldest": return "" + oldest(x);
                case "invoicesAt": return "" + at(x);
                default: return "" + daysToReminder(x);
            }
        }

        int open(int i) {
            int allocations = 0;
            for (Money p : payments) {
                allocations += p.to[i];
            }
            return invoices.get(i).amount - invoices.get(i).credited - allocations;
        }

        int clear(int i) {
            return open(i) - invoices.get(i).disputed;
        }

        int unallocated(int p) {
            Money m = payments.get(p);
            int rest = m.amount;
            for (int part : m.to) {
                rest -= part;
            }
            return m.reversed ? 0 : rest;
        }

        void line(int i, int amount) {
            if (amount != 0) {
                lines.add(new int[] {i, amount});
            }
        }

        int post(int client, int amount, int due, boolean interest) {
            Bill b = new Bill();
            b.client = client;
            b.amount = amount;
            b.due = due;
            b.interest = interest;
            invoices.add(b);
            line(invoices.size() - 1, amount);
            return invoices.size() - 1;
        }

        void give(int p, int i, int amount) {
            if (amount == 0) {
                return;
            }
            Bill b = invoices.get(i);
            payments.get(p).to[i] += amount;
            line(i, -amount);
            b.wait = 0;
            if (b.disputed > open(i)) {
                b.disputed = open(i);
            }
            if (open(i) == 0) {
                b.level = 0;
            }
        }

        int back(int p, int i) {
            int amount = payments.get(p).to[i];
            payments.get(p).to[i] = 0;
            line(i, amount);
            return amount;
        }

        List<Integer> clearOnes(int client) {
            List<Integer> ones = new ArrayList<>();
            for (int i = 0; i < invoices.size(); i++) {
                if (invoices.get(i).client == client && clear(i) > 0) {
                    ones.add(i);
                }
            }
            return ones;
        }

        BigInteger total(List<Integer> ones) {
            BigInteger sum = BigInteger.ZERO;
            for (int i : ones) {
                sum = sum.add(BigInteger.valueOf(clear(i)));
            }
            return sum;
        }

        int[] split(int amount, List<Integer> ones) {
            BigInteger sum = total(ones);
            int[] parts = new int[ones.size()];
            BigInteger[] rests = new BigInteger[ones.size()];
            List<Integer> order = new ArrayList<>();
            int left = amount;
            for (int k = 0; k < parts.length; k++) {
                BigInteger[] both = BigInteger.valueOf(amount).multiply(BigInteger.valueOf(clear(ones.get(k))))
                        .divideAndRemainder(sum);
                parts[k] = both[0].intValueExact();
                rests[k] = both[1];
                left -= parts[k];
                order.add(k);
            }
            order.sort(Comparator.<Integer, BigInteger>comparing(k -> rests[k]).reversed());
            for (int k = 0; k < left; k++) {
                parts[order.get(k)]++;
            }
            return parts;
        }

        List<Integer> byAge(int client) {
            List<Integer> ones = clearOnes(client);
            ones.sort(Comparator.comparing(i -> invoices.get(i).due));
            return ones;
        }

        int oldest(int client) {
            List<Integer> ones = byAge(client);
            return ones.isEmpty() ? -1 : ones.get(0);
        }

        int byRule(int p) {
            Client c = customers.get(payments.get(p).client);
            int rest = unallocated(p);
            int[] parts = new int[24];
            if (c.rule == 0) {
                int left = rest;
                for (int i : byAge(payments.get(p).client)) {
                    parts[i] = Math.min(left, clear(i));
                    left -= parts[i];
                }
            } else if (c.rule == 1) {
                List<Integer> ones = clearOnes(payments.get(p).client);
                boolean all = BigInteger.valueOf(rest).compareTo(total(ones)) >= 0;
                int[] shares = all ? null : split(rest, ones);
                for (int k = 0; k < ones.size(); k++) {
                    parts[ones.get(k)] = all ? clear(ones.get(k)) : shares[k];
                }
            }
            int sum = 0;
            for (int i = 0; i < 24; i++) {
                if (parts[i] > 0) {
                    give(p, i, parts[i]);
                }
                sum += parts[i];
            }
            return sum;
        }

        static int count(int convention, int from, int to) {
            if (convention < 2) {
                return to - from;
            }
            return f(LocalDate.of(2001, 1, 1).plusDays(to)) - f(LocalDate.of(2001, 1, 1).plusDays(from));
        }

        static int f(LocalDate d) {
            return 360 * d.getYear() + 30 * d.getMonthValue() + (d.getDayOfMonth() == 31 ? 30 : d.getDayOfMonth());
        }

        BigInteger unit(Bill b) {
            return BigInteger.valueOf(10000L * (customers.get(b.client).convention == 0 ? 365 : 360));
        }

        int accrued(int i) {
            Bill b = invoices.get(i);
            return b.sum.divide(unit(b)).intValueExact();
        }

        int interestOf(int client) {
            int sum = 0;
            for (int i = 0; i < invoices.size(); i++) {
                sum += invoices.get(i).client == client ? accrued(i) : 0;
            }
            return sum;
        }

        void pass() {
            for (int i = 0; i < invoices.size(); i++) {
                Bill b = invoices.get(i);
                Client c = customers.get(b.client);
                if (!b.interest && b.due <= day) {
                    b.sum = b.sum.add(BigInteger.valueOf(clear(i)).multiply(BigInteger.valueOf(c.rate))
                            .multiply(BigInteger.valueOf(count(c.convention, day, day + 1))));
                }
            }
            for (int i = 0; i < invoices.size(); i++) {
                Bill b = invoices.get(i);
                if (b.due <= day && b.level < 4 && open(i) > 0 && b.disputed == 0
                        && day > customers.get(b.client).pausedUpTo) {
                    b.wait++;
                    if (b.wait == new int[] {7, 14, 14, 21}[b.level]) {
                        b.level++;
                        b.wait = 0;
                    }
                }
            }
            day++;
        }

        int daysToReminder(int i) {
            Bill b = invoices.get(i);
            if (b.level == 4 || open(i) == 0 || b.disputed > 0) {
                return -1;
            }
            int wait = b.wait;
            int d = day;
            while (true) {
                if (b.due <= d && d > customers.get(b.client).pausedUpTo) {
                    wait++;
                }
                d++;
                if (wait == new int[] {7, 14, 14, 21}[b.level]) {
                    return d - day;
                }
            }
        }

        int byLedger(int i) {
            int sum = 0;
            for (int[] line : lines) {
                sum += line[0] == i ? line[1] : 0;
            }
            return sum;
        }

        int balance(int client) {
            int sum = 0;
            for (int i = 0; i < invoices.size(); i++) {
                sum += invoices.get(i).client == client ? open(i) : 0;
            }
            for (int p = 0; p < payments.size(); p++) {
                sum -= payments.get(p).client == client ? unallocated(p) : 0;
            }
            return sum;
        }

        int bucket(int i) {
            int late = day - invoices.get(i).due;
            return late < 1 ? 0 : late < 31 ? 1 : late < 61 ? 2 : late < 91 ? 3 : 4;
        }

        int ageing(int client, int bucket) {
            int sum = 0;
            for (int i = 0; i < invoices.size(); i++) {
                sum += invoices.get(i).client == client && bucket(i) == bucket ? open(i) : 0;
            }
            return sum;
        }

        int at(int level) {
            int found = 0;
            for (Bill b : invoices) {
                found += b.level == level ? 1 : 0;
            }
            return found;
        }

        String picture() {
            StringBuilder s = new StringBuilder("day " + day);
            for (int level = 0; level <= 4; level++) {
                s.append(' ').append(at(level));
            }
            for (int c = 0; c < customers.size(); c++) {
                s.append("\nc" + c + " " + balance(c) + " " + oldest(c));
                for (int bucket = 0; bucket <= 4; bucket++) {
                    s.append(' ').append(ageing(c, bucket));
                }
            }
            for (int i = 0; i < invoices.size(); i++) {
                Bill b = invoices.get(i);
                s.append("\ni" + i + " " + b.amount + " " + b.due + " " + open(i) + " " + byLedger(i));
                s.append(" " + b.disputed + " " + bucket(i) + " " + b.level + " " + daysToReminder(i));
                s.append(" " + accrued(i) + " " + b.interest);
            }
            for (int p = 0; p < payments.size(); p++) {
                s.append("\np" + p + " " + unallocated(p));
                for (int i = 0; i < invoices.size(); i++) {
                    s.append(' ').append(payments.get(p).to[i]);
                }
            }
            s.append("\nl");
            for (int k = 0; k < lines.size(); k++) {
                s.append(k > 0 ? " " : "").append(lines.get(k)[0] + ":" + lines.get(k)[1]);
            }
            return s.toString();
        }
    }
}
