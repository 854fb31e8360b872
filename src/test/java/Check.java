import java.util.Objects;

/** What all tests of the project share: counted checks, and a picture of a book's whole state. */
final class Check {
    interface Call {
        void run();
    }

    private static int passed = 0;
    private static int failed = 0;

    private Check() {
    }

    static void equal(String what, long want, long got) {
        report(want == got, what + ": due is " + want + ", answered " + got);
    }

    static void equal(String what, String want, String got) {
        report(Objects.equals(want, got), what + ": due is " + want + ", answered " + got);
    }

    static void isTrue(String what, boolean holds) {
        report(holds, what);
    }

    /** The call throws exactly this exception, and nothing that can be asked has changed. */
    static void refused(String what, ReceivablesBook book, Class<?> due, Call call) {
        String before = picture(book);
        equal(what + " throws", due.getSimpleName(), thrownBy(call));
        equal(what + " changes nothing", before, picture(book));
    }

    static void noIndex(String what, ReceivablesBook book, Call call) {
        refused(what, book, IndexOutOfBoundsException.class, call);
    }

    static void badArgument(String what, ReceivablesBook book, Call call) {
        refused(what, book, IllegalArgumentException.class, call);
    }

    static void badState(String what, ReceivablesBook book, Call call) {
        refused(what, book, IllegalStateException.class, call);
    }

    static String thrownBy(Call call) {
        try {
            call.run();
        } catch (RuntimeException e) {
            return nameOf(e);
        }
        return "nothing";
    }

    /** An exception's name; another answer if the machine or the library threw it, not the class itself. */
    static String nameOf(RuntimeException e) {
        StackTraceElement[] trace = e.getStackTrace();
        boolean own = trace.length > 0 && trace[0].getClassName().equals("ReceivablesBook")
                && trace[0].getMethodName().startsWith("require");
        return e.getClass().getSimpleName() + (own ? "" : " thrown by the machine");
    }

    /** All that the face tells of a book, as one text. */
    static String picture(ReceivablesBook b) {
        StringBuilder s = new StringBuilder();
        s.append("day ").append(b.today());
        for (int level = 0; level <= 4; level++) {
            s.append(' ').append(b.invoicesAt(level));
        }
        for (int c = 0; c < b.customers(); c++) {
            s.append("\nc").append(c).append(' ').append(b.balance(c)).append(' ').append(b.oldest(c));
            for (int bucket = 0; bucket <= 4; bucket++) {
                s.append(' ').append(b.ageing(c, bucket));
            }
        }
        for (int i = 0; i < b.invoices(); i++) {
            s.append("\ni").append(i).append(' ').append(b.amountOf(i)).append(' ').append(b.dueDay(i));
            s.append(' ').append(b.openOf(i)).append(' ').append(b.openByLedger(i));
            s.append(' ').append(b.disputedOf(i)).append(' ').append(b.bucketOf(i));
            s.append(' ').append(b.levelOf(i)).append(' ').append(b.daysToReminder(i));
            s.append(' ').append(b.accrued(i)).append(' ').append(b.isInterest(i));
        }
        for (int p = 0; p < b.payments(); p++) {
            s.append("\np").append(p).append(' ').append(b.unallocated(p));
            for (int i = 0; i < b.invoices(); i++) {
                s.append(' ').append(b.allocated(p, i));
            }
        }
        s.append("\nl").append(ledger(b, 0));
        return s.toString();
    }

    /** The ledger's lines from one on, each as invoice:amount. */
    static String ledger(ReceivablesBook b, int from) {
        StringBuilder s = new StringBuilder();
        for (int line = from; line < b.ledgerLines(); line++) {
            s.append(s.length() > 0 ? " " : "").append(b.lineInvoice(line)).append(':').append(b.lineAmount(line));
        }
        return s.toString();
    }

    private static void report(boolean good, String text) {
        if (good) {
            passed++;
        } else {
            failed++;
            System.out.println("  " + text);
        }
    }

    static void end(String name) {
        System.out.println(name + ": " + passed + " checks hold, " + failed + " do not");
        if (failed > 0) {
            System.exit(1);
        }
    }
}
