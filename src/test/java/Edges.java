import java.util.Set;
import java.util.TreeSet;
import java.util.function.Supplier;
import java.util.function.ToIntFunction;

/**
 * What the tests of the document's edges share (below it, as a class without a package can't be
 * imported). A test is one sentence of the document that names a boundary case, in the document's own
 * words and with its promise. Each is made on courts of its own, none of which answers more than 512
 * calls.
 */
abstract class Edges {
    static final int NONE = -1000, BAD = -1001, STATE = -1002, FULL = -1003;
    static final int NO_BALANCE = -1011, NO_PAN = -1012, BEYOND = -1013;
    static final int NOT_THAT_ONE = -1014, SIZE = -1015, NOUGHT = -1016;
    static final int LOW = Integer.MIN_VALUE, HIGH = Integer.MAX_VALUE;

    /** The BALANCES of rich(), by their numbers; GAPPED is a QUEUE whose second one is TAKEN. */
    static final int PLAIN = 0, SCALE = 1, LIAR = 2, TAKEN = 3, QUEUE = 4, GAPPED = 5, TAKEN_QUEUE = 6, LAST = 7;
    static final int CAME = 8;

    private static final Set<Integer> promises = new TreeSet<>();
    private static String now = "";
    private static int tests;
    private static int wrong;

    interface OnBalance {
        int call(WeighCourt x, int b);
    }

    /** One test: a sentence of the document, and the calls that would answer otherwise if it were broken. */
    static void edge(int promise, String sentence, Runnable calls) {
        now = "promise " + promise + ", \"" + sentence + "\"";
        promises.add(promise);
        tests++;
        try {
            calls.run();
        } catch (RuntimeException | StackOverflowError e) {
            tell("the machine threw " + e);
        }
    }

    static void done(int first, int last) {
        for (int promise = first; promise <= last; promise++) {
            if (promises.contains(promise)) continue;
            now = "promise " + promise;
            tell("no sentence of it is tested");
        }
        System.out.println(wrong == 0 ? tests + " sentences hold" : wrong + " answers are not as due");
        if (wrong != 0) System.exit(1);
    }

    static void due(long got, long want) {
        if (got != want) tell("answered " + got + ", due is " + want);
    }

    private static void tell(String what) {
        wrong++;
        int line = StackWalker.getInstance().walk(frames -> frames
            .filter(f -> f.getClassName().endsWith("Test"))
            .map(StackWalker.StackFrame::getLineNumber).findFirst().orElse(0));
        System.out.println(now + ", line " + line + ": " + what);
    }

    /** A call that answers BAD, STATE or FULL changes nothing at all. */
    static void refused(Supplier<WeighCourt> made, ToIntFunction<WeighCourt> call, int want) {
        due(unchanged(made, call), want);
    }

    static void refused(ToIntFunction<WeighCourt> call, int want) {
        refused(Edges::rich, call, want);
    }

    /** What a call answers that changes nothing at all: a court behind it is as one without it. */
    static int unchanged(Supplier<WeighCourt> made, ToIntFunction<WeighCourt> call) {
        WeighCourt before = made.get();
        WeighCourt behind = made.get();
        int answer = call.applyAsInt(behind);
        same(seen(behind) + trace(behind), seen(before) + trace(before));
        due(behind.status(), before.status());
        due(behind.count(10), before.count(10));
        for (int b = 0; b < 12; b++) due(behind.complain(b), before.complain(b));
        return answer;
    }

    /** A call with a FINDING changes status(), how many there were, COMPLAINTS and THE TRACE alone. */
    static void found(Supplier<WeighCourt> made, ToIntFunction<WeighCourt> call, int want) {
        WeighCourt before = made.get();
        WeighCourt behind = made.get();
        due(call.applyAsInt(behind), want);
        same(seen(behind), seen(before));
        due(behind.status(), -1010 - want);
        due(behind.count(10), before.count(10) + 1);
    }

    static void found(ToIntFunction<WeighCourt> call, int want) {
        found(Edges::rich, call, want);
    }

    static void noneCameWith(OnBalance calls) {
        for (int b : some(LOW, -1, CAME, HIGH)) refused(x -> calls.call(x, b), BAD);
    }

    static void wasTaken(OnBalance calls) {
        for (int b : some(TAKEN, TAKEN_QUEUE)) found(x -> calls.call(x, b), NO_BALANCE);
    }

    private static void same(String got, String want) {
        if (!got.equals(want)) tell("left " + got + ", due is " + want);
    }

    private static String seen(WeighCourt x) {
        StringBuilder all = new StringBuilder();
        all.append(x.digest());
        for (int what = 0; what < 10; what++) all.append(' ').append(x.count(what));
        all.append(", least ").append(x.least()).append(", tree ").append(x.tree());
        for (int i = 0; i < Math.min(x.tree(), 8); i++) {
            for (int what = 0; what < 11; what++) all.append(' ').append(x.node(i, what));
        }
        all.append(", rows");
        for (int i = 0; i < Math.min(x.count(9), 20); i++) {
            all.append(' ').append(x.row(i, 0)).append(' ').append(x.row(i, 1));
        }
        all.append(", judged");
        for (int what = 0; what < 3; what++) all.append(' ').append(x.judged(what));
        return all.toString();
    }

    private static String trace(WeighCourt x) {
        StringBuilder all = new StringBuilder(", trace");
        for (int i = 0; i < 6; i++) all.append(' ').append(x.trace(i));
        return all.toString();
    }

    static void traceIs(WeighCourt x, int... numbers) {
        for (int i = 0; i < numbers.length; i++) due(x.trace(i), numbers[i]);
        due(x.trace(numbers.length), NONE);
    }

    static int[] some(int... numbers) {
        return numbers;
    }

    /** A court with a CHARGE, and BALANCES of these KINDS. */
    static WeighCourt court(int n, int least, int most, int kinds, int... balances) {
        WeighCourt x = new WeighCourt();
        x.coins(n, least, most, kinds);
        for (int kind : balances) x.balance(kind);
        return x;
    }

    /** Both PANS with as many PLACES as COINS, and the COINS there. */
    static void load(WeighCourt x, int b, int[] left, int[] right) {
        fill(x, b, 0, left);
        fill(x, b, 1, right);
    }

    private static void fill(WeighCourt x, int b, int side, int[] coins) {
        x.pan(b, side, coins.length);
        for (int place = 0; place < coins.length; place++) x.put(b, side, place, coins[place]);
    }

    /** A court in which something of every sort is there that a refused call could change. */
    static WeighCourt rich() {
        WeighCourt x = court(4, 1, 1, 3, 0, 1, 5, 0);
        x.lies(1);
        x.queue(PLAIN, SCALE, -1);
        x.queue(PLAIN, TAKEN, -1);
        x.queue(PLAIN, SCALE, -1);
        x.balance(4);
        x.take(TAKEN);
        x.take(TAKEN_QUEUE);
        load(x, PLAIN, some(0), some(1));
        load(x, LAST, some(2), some(3));
        x.pan(SCALE, 0, 3);
        x.put(SCALE, 0, 1, 2);
        x.weigh(PLAIN, 0);
        x.fix(0, 1, 2);
        x.fix(1, 4, 8);
        x.judge(PLAIN, 2);
        x.search(PLAIN, 1000);
        x.prove();
        x.unpan(SCALE, 1);
        x.wish(SCALE, 1, 0);
        return x;
    }
}
