import java.lang.management.ManagementFactory;
import java.util.ArrayList;
import java.util.List;

/** What the document says of all calls: how many there are, which exception comes, what one that throws changes. */
public final class CallSentenceTests extends Sentences {
    private static final String BLANKS = " ".repeat(20);

    public static void main(String[] args) {
        new CallSentenceTests().all();
    }

    private void all() {
        sentence("An object is used for at most 512 calls after it has been made", this::all512Calls);
        sentence("Promise 1: An empty tape, no group, no reflections, no rows", this::newObject);
        sentence("Of several exceptions the one named first is thrown: sent", this::firstOfSent);
        sentence("Of several exceptions the one named first is thrown: absent", this::firstOfAbsent);
        sentence("Of several exceptions the one named first is thrown: greatest", this::firstOfGreatest);
        sentence("Of several exceptions the one named first is thrown: violations", this::firstOfViolations);
        sentence("Of several exceptions the one named first is thrown: complete", this::firstOfComplete);
        sentence("a call that throws changes nothing: of a new object", () -> throwsChangeNothing(this::newOne, 0));
        sentence("a call that throws changes nothing: without a group", () -> throwsChangeNothing(this::withoutGroup, 5));
        sentence("a call that throws changes nothing: of a full tape", () -> throwsChangeNothing(this::withFullTape, 8000));
        sentence("a call that throws changes nothing: with all there is", () -> throwsChangeNothing(this::withAll, 5));
        sentence("a call that throws changes nothing: feed with room for some of its bytes", this::feedOfTenBytes);
        sentence("All memory is the class's own", this::objectsApart);
        sentence("what is kept is as told", this::askingChangesNothing);
        sentence("a call makes nothing but an exception", this::callsMakeNothing);
        c.finish();
    }

    private static void feed(ReflectionReducer to, String twenty) {
        byte[] b = new byte[20];
        for (int i = 0; i < 20; i++) {
            b[i] = (byte) twenty.charAt(i);
        }
        to.feed(Checks.four(b, 0), Checks.four(b, 4), Checks.four(b, 8), Checks.four(b, 12), Checks.four(b, 16));
    }

    /** 400 feeds, then 112 calls more, the last of which has to know all that came before. */
    private void all512Calls() {
        int calls = 0;
        feed(x, "P 2yb" + BLANKS.substring(5));
        c.due("symbol", x.symbol(), 0);
        calls += 2;
        String rows = lines(137, 1, 2, 3, 100) + lines(137, 0, 1, 0, 300) + line(9, 0, 0, 7);
        String padded = rows + BLANKS;
        for (int i = 0; i < rows.length(); i += 20) {
            feed(x, padded.substring(i, i + 20));
            calls++;
        }
        x.end(rows.length());
        c.due("file", x.file(), 275);
        c.due("merge", x.merge(), 3);
        c.due("violations", x.violations(2), 137);
        calls += 4;
        for (; calls < 507; calls++) {
            c.due("violation", x.violation(calls % 137), 137 + calls % 137);
        }
        c.due("call 508", x.row(2, 0), 9);
        c.due("call 509", x.violation(136), 273);
        // with k and without: 624 * 24 / 4, 624 / 2, and 0 k 0 with k even
        c.due("call 510", x.complete(12, 1), 3744 + 312 + 6);
        c.due("call 511", x.complete(12, 0), 2);
        c.due("call 512", x.drop(), 275);
    }

    private void newObject() {
        String portrait = portrait(x);
        yes("nothing is there: " + portrait, portrait.equals(
            "order 0 laue -1 plain 0 0 reflections 0 rows 0 digits -1 -1 digit 0 0 violation -1"));
        c.due("symbol", x.symbol(), -1);
        c.due("file", x.file(), -1);
        c.due("drop", x.drop(), 0);
    }

    private void refused(Class<? extends RuntimeException> by, Checks.Call call) {
        c.dueThrow("call", by, call);
    }

    private void firstOfSent() {
        refused(INDEX, () -> x.sent(0, 128, 0, 0, 0));
        right("P 1");
        refused(INDEX, () -> x.sent(1, 128, 0, 0, 0));
        refused(INDEX, () -> x.sent(-1, 0, -128, 0, 3));
        refused(INDEX, () -> x.sent(0, 0, 0, 128, 4));
        refused(INDEX, () -> x.sent(0, MOST, LEAST, 128, -1));
        refused(ARGUMENT, () -> x.sent(0, 128, 0, 0, 3));
    }

    private void firstOfAbsent() {
        refused(STATE, () -> x.absent(128, 0, 0));
        refused(STATE, () -> x.absent(0, LEAST, MOST));
        right("P 1");
        refused(ARGUMENT, () -> x.absent(128, 0, 0));
    }

    private void firstOfGreatest() {
        refused(STATE, () -> x.greatest(128, 0, 0, 0));
        refused(STATE, () -> x.greatest(0, 0, 0, 4));
        refused(STATE, () -> x.greatest(0, 0, -128, -1));
        right("P 1");
        refused(ARGUMENT, () -> x.greatest(128, 0, 0, 4));
        refused(ARGUMENT, () -> x.greatest(0, -128, 0, -1));
        refused(ARGUMENT, () -> x.greatest(0, 0, 128, LEAST));
        refused(INDEX, () -> x.greatest(0, 0, 127, 4));
    }

    private void firstOfViolations() {
        refused(STATE, () -> x.violations(-1));
        refused(STATE, () -> x.violations(101));
        right("P 1");
        refused(ARGUMENT, () -> x.violations(101));
    }

    private void firstOfComplete() {
        refused(STATE, () -> x.complete(0, 0));
        refused(STATE, () -> x.complete(1, 2));
        refused(STATE, () -> x.complete(13, -1));
        right("P 1");
        refused(ARGUMENT, () -> x.complete(0, 2));
        refused(ARGUMENT, () -> x.complete(13, -1));
        refused(INDEX, () -> x.complete(12, 2));
    }

    // ---- what can be asked of an object, in one text

    private static String portrait(ReflectionReducer of) {
        StringBuilder text = new StringBuilder();
        text.append("order ").append(of.order()).append(" laue ").append(of.laue());
        text.append(" plain ").append(of.plain(1)).append(' ').append(of.plain(-1));
        for (int i = 0; i < of.order() * 12; i++) {
            text.append(i % 12 == 0 ? " op" : "").append(' ').append(of.op(i / 12, i % 12));
        }
        text.append(" reflections ").append(of.reflections());
        for (int i = 0; i < of.reflections() * 5; i++) {
            text.append(' ').append(of.reflection(i / 5, i % 5));
        }
        text.append(" rows ").append(of.rows());
        for (int i = 0; i < of.rows() * 10; i++) {
            text.append(' ').append(of.row(i / 10, i % 10));
        }
        text.append(" digits ").append(of.digits(0)).append(' ').append(of.digits(1));
        text.append(" digit ").append(of.digit(0, 0)).append(' ').append(of.digit(1, 0));
        text.append(" violation ").append(of.violation(0));
        if (of.order() > 0) {
            text.append(" complete ").append(of.complete(2, 0)).append(' ').append(of.complete(2, 1));
        }
        return text.toString();
    }

    private void lengthOfTape(ReflectionReducer of, int length) {
        c.dueThrow("end(" + (length + 1) + ")", ARGUMENT, () -> cut(of, length + 1));
        c.due("end(" + length + ")", cut(of, length), 0);
    }

    private static int cut(ReflectionReducer of, int n) {
        of.end(n);
        return 0;
    }

    private interface Maker {
        ReflectionReducer make();
    }

    private ReflectionReducer newOne() {
        return new ReflectionReducer();
    }

    private ReflectionReducer withoutGroup() {
        ReflectionReducer made = new ReflectionReducer();
        Checks.readFile(made, line(1, 2, 3, 100) + line(1, 2, 3, 300));
        Checks.readSymbol(made, "P 4 6x");
        Checks.putOnTape(made, "P 2yb");
        return made;
    }

    private ReflectionReducer withFullTape() {
        ReflectionReducer made = new ReflectionReducer();
        Checks.putOnTape(made, " ".repeat(7995) + "P 2yb");
        return made;
    }

    private ReflectionReducer withAll() {
        ReflectionReducer made = new ReflectionReducer();
        Checks.readSymbol(made, "C 2yc");
        Checks.readFile(made, line(1, 1, 3, 100) + line(1, 1, 3, 300) + line(1, 0, 0, 900) + line(0, 2, 0, 500));
        made.merge();
        made.violations(1);
        Checks.readFile(made, line(2, 2, 2, 700));
        Checks.putOnTape(made, "P 2yb");
        return made;
    }

    private List<Checks.Call> callsOn(ReflectionReducer of) {
        List<Checks.Call> calls = new ArrayList<>();
        calls.add(() -> of.feed(1, 2, 3, 4, 5));
        for (int n : new int[] {-1, 8001, LEAST, MOST}) {
            calls.add(() -> cut(of, n));
            calls.add(() -> of.op(n, 0));
            calls.add(() -> of.op(0, n));
            calls.add(() -> of.sent(n, 1, 2, 3, 0));
            calls.add(() -> of.sent(0, 1, 2, 3, n));
            calls.add(() -> of.sent(0, 1, n < 0 ? LEAST : MOST, 3, 0));
            calls.add(() -> of.absent(n < 0 ? LEAST : MOST, 2, 3));
            calls.add(() -> of.greatest(1, 2, n < 0 ? LEAST : MOST, 0));
            calls.add(() -> of.greatest(1, 2, 3, n));
            calls.add(() -> of.reflection(n, 0));
            calls.add(() -> of.reflection(0, n));
            calls.add(() -> of.row(n, 0));
            calls.add(() -> of.row(0, n));
            calls.add(() -> of.digits(n));
            calls.add(() -> of.digit(n, 0));
            calls.add(() -> of.violations(n));
            calls.add(() -> of.complete(n, 0));
            calls.add(() -> of.complete(1, n));
        }
        calls.add(() -> of.merge());
        return calls;
    }

    /** Each call on an object of its own; those that do not throw, as feed where there is room, are left out. */
    private void throwsChangeNothing(Maker maker, int length) {
        int count = callsOn(maker.make()).size();
        int thrown = 0;
        for (int i = 0; i < count; i++) {
            ReflectionReducer made = maker.make();
            String before = portrait(made);
            if (!Checks.outcome(callsOn(made).get(i)).startsWith("java.lang.")) {
                continue;
            }
            thrown++;
            yes("call " + i + " changes what is there", portrait(made).equals(before));
            ReflectionReducer twin = maker.make();
            lengthOfTape(made, length);
            c.due("call " + i + ", symbol", made.symbol(), twin.symbol());
            yes("call " + i + " and then a symbol", portrait(made).equals(portrait(twin)));
        }
        yes("many of the calls throw: " + thrown, thrown >= 60);
    }

    private void feedOfTenBytes() {
        Checks.putOnTape(x, " ".repeat(7990));
        refused(STATE, () -> x.feed(0x50203120, 0x20202020, 0x20202020, 0x20202020, 0x20202020));
        lengthOfTape(x, 7990);
        c.due("symbol of blanks", x.symbol(), -1 - 7990);
    }

    private void objectsApart() {
        ReflectionReducer y = withAll();
        String before = portrait(y);
        merged("-F 4vw 2vw 3", line(2, 0, 0, 900) + line(4, 0, 0, 900));
        c.due("violations", x.violations(0), 1);
        x.drop();
        feed(x, "x" + BLANKS.substring(1));
        yes("the other one is as it was", portrait(y).equals(before));
        c.due("its tape too", y.symbol(), 0);
        c.due("and this one's", x.symbol(), -1);
        c.due("order", y.order(), 2);
        c.due("order", x.order(), 192);
    }

    private void askingChangesNothing() {
        ReflectionReducer made = withAll();
        String first = portrait(made);
        c.due("greatest", made.greatest(-1, -1, -3, 0), 1);
        c.due("absent", made.absent(1, 0, 0), 1);
        c.due("sent", made.sent(0, 1, 1, 1, 1), 1);
        c.due("complete", made.complete(12, 0), 2);
        yes("asked twice", portrait(made).equals(first));
        c.due("the tape", made.symbol(), 0);
    }

    private void callsMakeNothing() {
        String rows = line(1, 1, 3, 100) + line(1, 1, 3, 300) + line(1, 0, 0, 900) + line(5, 3, 1, 123);
        String text = rows + BLANKS;
        // what the machine makes at the first time is not the class's
        long made = Long.MAX_VALUE;
        for (int i = 0; i < 5; i++) {
            made = Math.min(made, madeByARun(new ReflectionReducer(), rows.length(), text));
        }
        c.due("bytes made by a run of calls", made, 0);
    }

    private long madeByARun(ReflectionReducer of, int length, String text) {
        int[] fours = new int[text.length() / 20 * 5];
        for (int i = 0; i < fours.length; i++) {
            fours[i] = text.charAt(4 * i) << 24 | text.charAt(4 * i + 1) << 16 | text.charAt(4 * i + 2) << 8 | text.charAt(4 * i + 3);
        }
        var threads = (com.sun.management.ThreadMXBean) ManagementFactory.getThreadMXBean();
        long id = Thread.currentThread().getId();
        threads.getThreadAllocatedBytes(id);
        long before = threads.getThreadAllocatedBytes(id);
        long total = readAndAsk(of, fours, length);
        long made = threads.getThreadAllocatedBytes(id) - before;
        return total == 0 ? -1 : made;
    }

    private static long readAndAsk(ReflectionReducer of, int[] fours, int length) {
        // "-I 4bd 2c 3", a symbol that is TOO_LARGE, "P 4 6x", and one with a fault
        of.feed(0x2d492034, 0x62642032, 0x63203320, 0x20202020, 0x20202020);
        long total = of.symbol();
        of.feed(0x50203420, 0x36782020, 0x20202020, 0x20202020, 0x20202020);
        total += of.symbol();
        of.feed(0, 0, 0, 0, 0);
        total += of.symbol();
        for (int i = 0; i + 4 < fours.length; i += 5) {
            of.feed(fours[i], fours[i + 1], fours[i + 2], fours[i + 3], fours[i + 4]);
        }
        of.end(length);
        total += of.file() + of.file() + of.merge() + of.violations(1) + of.violation(0);
        total += of.order() + of.op(3, 4) + of.laue() + of.plain(-1) + of.sent(1, 2, 3, 4, 3) + of.absent(1, 2, 3);
        total += of.greatest(1, 2, 3, 0) + of.greatest(1, 2, 3, 3) + of.reflections() + of.reflection(1, 3) + of.rows();
        for (int what = 0; what < 10; what++) {
            total += of.row(0, what);
        }
        total += of.digits(0) + of.digits(1) + of.digit(0, 0) + of.digit(1, 0) + of.complete(3, 0) + of.complete(3, 1);
        return total + of.drop();
    }
}
