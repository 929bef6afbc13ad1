import com.sun.management.ThreadMXBean;
import java.lang.management.ManagementFactory;

/** The dearest runs of 512 calls: what they make stays far below the one room, were nothing ever given back. */
public final class RoomTest {
    /** 7.3 million fields and elements are the room; even if each were a byte, this is less than half of it. */
    private static final long MOST_BYTES = 3_500_000;
    private static final int CALLS = 512;
    private static int wrong = 0;

    interface Run {
        void calls(WeighCourt x);
    }

    public static void main(String[] args) {
        measure("warm up", RoomTest::coinsAgain, Long.MAX_VALUE);
        measure("a new one", x -> { }, 4_000);
        measure("coins()", RoomTest::coinsAgain, MOST_BYTES);
        measure("judge()", RoomTest::judgeAgain, MOST_BYTES);
        measure("alike()", RoomTest::alikeAgain, MOST_BYTES);
        measure("weigh(), undo()", RoomTest::weighAgain, MOST_BYTES);
        measure("search()", RoomTest::searchAgain, MOST_BYTES);
        measure("prove(), check()", RoomTest::checkAgain, MOST_BYTES);
        measure("queue()", RoomTest::queueAgain, MOST_BYTES);
        System.out.println(wrong == 0 ? "all runs have room" : wrong + " runs have none");
        if (wrong != 0) System.exit(1);
    }

    private static void measure(String name, Run run, long most) {
        ThreadMXBean threads = (ThreadMXBean) ManagementFactory.getThreadMXBean();
        long before = threads.getCurrentThreadAllocatedBytes();
        run.calls(new WeighCourt());
        long made = threads.getCurrentThreadAllocatedBytes() - before;
        System.out.println(name + ": " + made + " bytes");
        if (made <= most) return;
        wrong++;
        System.out.println(name + " makes too much");
    }

    private static void coinsAgain(WeighCourt x) {
        for (int i = 0; i < CALLS; i++) {
            if (i % 2 == 0) x.coins(1 + i % 40, 0, 3, 1);
            else x.coins(20, 0, 3, 3);
        }
    }

    private static void judgeAgain(WeighCourt x) {
        x.coins(20, 0, 3, 3);
        x.balance(0);
        x.balance(1);
        x.queue(1, 0, -1);
        for (int k = 0; k < 6; k++) x.fix(k, 0x155L << k, 0x2AAL << k);
        for (int i = 0; i < CALLS - 10; i++) x.judge(i % 3, 1 + i / 3 % 6);
    }

    private static void alikeAgain(WeighCourt x) {
        x.coins(40, 3, 3, 1);
        for (int i = 0; i < CALLS - 1; i++) x.alike(i % 40, (i + 1) % 40);
    }

    private static void weighAgain(WeighCourt x) {
        x.coins(20, 0, 3, 3);
        x.lies(3);
        x.balance(5);
        x.pan(0, 0, 1);
        x.pan(0, 1, 1);
        x.put(0, 0, 0, 0);
        x.put(0, 1, 0, 1);
        for (int i = 0; i < CALLS - 7; i++) {
            if (i % 60 < 30) x.weigh(0, i % 3 - 1);
            else x.undo();
        }
    }

    private static void searchAgain(WeighCourt x) {
        x.coins(12, 1, 1, 3);
        x.lies(1);
        x.balance(5);
        x.balance(1);
        x.queue(0, 1, -1);
        x.search(2, 10000);
        x.goOn(10000);
        for (int i = 0; i < CALLS - 7; i++) x.search(i % 3, 1);
    }

    private static void checkAgain(WeighCourt x) {
        x.coins(3, 0, 1, 3);
        x.lies(1);
        x.balance(5);
        x.search(0, 10000);
        x.prove();
        for (int i = 0; i < CALLS - 5; i++) x.check();
        if (x.check() == 1) return;
        wrong++;
        System.out.println("the rows do not hold");
    }

    private static void queueAgain(WeighCourt x) {
        x.balance(0);
        x.queue(0, 0, 0);
        for (int i = 0; i < CALLS - 2; i++) x.queue(0, 0, 1);
    }
}
