import java.util.function.Supplier;

/** Promises 34 to 39, and the document's part 6 FIXED WEIGHINGS: one test for each sentence that names a boundary case. */
public final class EdgesOfToldTest extends Edges {
    public static void main(String[] args) {
        fix();
        fixWhat();
        judge();
        judgeWhat();
        judgeByTurns();
        judged();
        judgedSince();
        count();
        countEach();
        digest();
        digestOfBalances();
        status();
        done(34, 39);
    }

    private static void fix() {
        edge(34, "FIXED WEIGHINGS 0 .. 5 are told ahead", () -> {
            for (int k : some(LOW, -1, 6, HIGH)) refused(x -> x.fix(k, 1, 2), BAD);
            for (int k = 0; k <= 5; k++) due(rich().fix(k, 1, 2), 1);
        });
        edge(34, "(coins() makes all have none.)", () -> {
            WeighCourt x = court(4, 1, 1, 1, 0);
            for (int k = 0; k < 6; k++) x.fix(k, 1, 2);
            due(x.judge(0, 6), 2);
            x.coins(4, 1, 1, 1);
            for (int n = 1; n <= 6; n++) due(x.judge(0, n), STATE);
            x.fix(0, 1, 2);
            due(x.judge(0, 1), 2);
            due(x.judge(0, 2), STATE);
        });
        edge(34, "What is refused, or found, changes nothing", () -> {
            // 0 | 1 stays what it was: two are told, two are not.
            WeighCourt x = court(4, 1, 1, 1, 0);
            x.fix(0, 1, 2);
            x.fix(0, 3, 8);
            x.fix(0, 0, 0);
            due(x.judge(0, 1), 2);
            due(x.judged(0), 2);
        });
    }

    private static void fixWhat() {
        edge(34, "bits of no COINS", () -> {
            due(rich().fix(0, 8, 1), 1);
            refused(x -> x.fix(0, 16, 1), BAD);
            refused(x -> x.fix(0, 1, 16), BAD);
            refused(x -> x.fix(0, 17, 6), BAD);
            refused(x -> x.fix(0, Long.MIN_VALUE, 1), BAD);
            refused(x -> x.fix(0, 1, Long.MIN_VALUE), BAD);
            refused(x -> x.fix(0, -1, 0), BAD);
            due(court(40, 1, 1, 1).fix(0, 1L << 39, 1L << 38), 1);
            refused(() -> court(40, 1, 1, 1), x -> x.fix(0, 1L << 40, 1), BAD);
            refused(() -> court(40, 1, 1, 1), x -> x.fix(0, 1, 1L << 40), BAD);
            refused(() -> court(1, 1, 1, 1), x -> x.fix(0, 1, 2), BAD);
            refused(WeighCourt::new, x -> x.fix(0, 1, 2), BAD);
        });
        edge(34, "bits in both", () -> {
            refused(x -> x.fix(0, 1, 1), BAD);
            refused(x -> x.fix(0, 3, 6), BAD);
            refused(x -> x.fix(0, 15, 15), BAD);
            due(rich().fix(0, 3, 12), 1);
        });
        edge(34, "not as many in both", () -> {
            refused(x -> x.fix(0, 3, 4), BAD);
            refused(x -> x.fix(0, 1, 6), BAD);
            refused(x -> x.fix(0, 1, 0), BAD);
            refused(x -> x.fix(0, 0, 8), BAD);
            long twenty = (1L << 20) - 1;
            due(court(40, 1, 1, 1).fix(0, twenty, twenty << 20), 1);
            refused(() -> court(40, 1, 1, 1), x -> x.fix(0, twenty - 1, twenty << 20), BAD);
        });
        edge(34, "or none", () -> refused(x -> x.fix(0, 0, 0), BAD));
    }

    /** One of 4 COINS is heavier; so many FIXED WEIGHINGS, all 0 | 1; BALANCE 1 is TAKEN. */
    private static WeighCourt fixed(int many) {
        WeighCourt x = court(4, 1, 1, 1, 0, 0);
        x.take(1);
        for (int k = 0; k < many; k++) x.fix(k, 1, 2);
        return x;
    }

    private static void judge() {
        edge(35, "The first n FIXED WEIGHINGS (1 to 6) are JUDGED", () -> {
            for (int n : some(LOW, -1, 0, 7, HIGH)) {
                refused(() -> fixed(6), x -> x.judge(0, n), BAD);
                refused(() -> fixed(6), x -> x.judge(1, n), BAD);
            }
            for (int n = 1; n <= 6; n++) {
                // Only those ahead of n are asked: the n-th one more would tell all.
                WeighCourt x = fixed(n);
                if (n < 6) x.fix(n, 1, 4);
                due(x.judge(0, n), 2);
                if (n < 6) due(x.judge(0, n + 1), 4);
            }
        });
        edge(35, "a number that none came with is BAD", () -> {
            noneCameWith((x, b) -> x.judge(b, 1));
            due(rich().judge(LAST, 1), 0);
        });
        edge(35, "STATE: one of them has no COINS", () -> {
            for (int n = 1; n <= 6; n++) {
                int asked = n;
                refused(() -> fixed(asked - 1), x -> x.judge(0, asked), STATE);
                refused(() -> fixed(asked - 1), x -> x.judge(1, asked), STATE);
                due(fixed(n).judge(0, n), 2);
                found(() -> fixed(asked), x -> x.judge(1, asked), NO_BALANCE);
            }
            WeighCourt x = fixed(0);
            x.fix(1, 1, 2);
            due(x.judge(0, 1), STATE);
            due(x.judge(0, 2), STATE);
        });
        edge(35, "one that was TAKEN NO BALANCE", () -> wasTaken((x, b) -> x.judge(b, 1)));
    }

    private static void judgeWhat() {
        edge(35, "how many TRUTHS that are LEFT have a row that no other one has", () -> {
            due(fixed(1).judge(0, 1), 2);
            // STRUCK ones have no row: behind 0 | 2, even, the 1 and the 3 are told apart by 0 | 1.
            WeighCourt x = fixed(1);
            load(x, 0, some(0), some(2));
            x.weigh(0, 0);
            due(x.judge(0, 1), 2);
            due(x.judged(0), NONE);
            WeighCourt y = court(3, 0, 0, 1, 0);
            y.fix(0, 1, 2);
            due(y.judge(0, 1), 1);
        });
        edge(35, "without LIES", () -> {
            WeighCourt x = court(4, 1, 1, 1, 5);
            x.lies(3);
            x.fix(0, 1, 2);
            due(x.judge(0, 1), 2);
            due(x.judged(1), 3);
        });
        edge(35, "each TRUTH that is LEFT has the row of what the BALANCE TELLS of its differences", () -> {
            // None to two heavier, 0, 1 | 2, 3: 2 for 01, 1 twice, 0 for none and for four pairs, -1 twice, -2 for 23.
            int[][] of = {{1, 2, 5, 5}, {0, 0, 3, 5}, {2, 2, 3, 9}, {4, 2, 3, 9}};
            for (int[] o : of) {
                WeighCourt x = court(4, 0, 2, 1, o[0]);
                x.fix(0, 3, 12);
                due(x.judge(0, 1), o[1]);
                due(x.judged(0), 0);
                due(x.judged(1), o[2]);
                due(x.judged(2), o[3]);
            }
            // All seven that a SCALE may tell: three heavier of 6, 0, 1, 2 | 3, 4, 5, tell 3, 1, -1, -3, two the others.
            WeighCourt x = court(6, 2, 3, 1, 1);
            x.fix(0, 7, 56);
            due(x.judge(0, 1), 2);
            due(x.judged(1), 7);
            due(x.judged(2), 9);
        });
    }

    /** BALANCES: 0 BLUNT, 1 PLAIN, 2 SCALE, 3 a QUEUE of these in this order, 4 one of 0 and 1. */
    private static WeighCourt queues() {
        WeighCourt x = court(4, 1, 1, 1, 4, 0, 1);
        x.queue(0, 1, 2);
        x.queue(0, 1, -1);
        for (int k = 0; k < 6; k++) x.fix(k, 1, 2);
        return x;
    }

    private static void judgeByTurns() {
        edge(35, "(a QUEUE: the first by its BALANCE 0, and so on)", () -> {
            // The BLUNT one tells nothing of one COIN, the PLAIN one, and the SCALE, tell 0 from 1.
            due(queues().judge(3, 1), 0);
            due(queues().judged(2), STATE);
            due(queues().judge(3, 2), 2);
            due(queues().judge(4, 2), 2);
            // The third one of a QUEUE of two is the first again: 0 | 2 then tells nothing.
            WeighCourt x = queues();
            x.fix(2, 1, 4);
            due(x.judge(4, 3), 2);
            due(x.judge(3, 3), 4);
            x.fix(3, 1, 4);
            due(x.judge(4, 4), 4);
            // Its turns count from the first on, whatever was weighed.
            load(x, 0, some(0), some(1));
            x.weigh(0, 0);
            due(x.judge(3, 1), 0);
            due(x.judge(3, 2), 2);
        });
        edge(35, "NO BALANCE: also one of a QUEUE's whose turn comes", () -> {
            Supplier<WeighCourt> third = () -> {
                WeighCourt x = queues();
                x.take(2);
                return x;
            };
            due(third.get().judge(3, 1), 0);
            due(third.get().judge(3, 2), 2);
            for (int n = 3; n <= 6; n++) {
                int asked = n;
                found(third, x -> x.judge(3, asked), NO_BALANCE);
                due(third.get().judge(4, n), 2);
            }
            found(() -> {
                WeighCourt x = queues();
                x.take(0);
                return x;
            }, x -> x.judge(3, 1), NO_BALANCE);
            found(x -> x.judge(GAPPED, 2), NO_BALANCE);
            due(rich().judge(GAPPED, 1), 0);
            refused(x -> x.judge(GAPPED, 3), STATE);
        });
    }

    private static void judgedAre(WeighCourt x, int... told) {
        for (int what = 0; what < 3; what++) due(x.judged(what), told[what]);
    }

    private static void judged() {
        edge(36, "BAD; STATE: there was none since coins()", () -> {
            for (int what : some(LOW, -1, 3, HIGH)) {
                refused(x -> x.judged(what), BAD);
                refused(WeighCourt::new, x -> x.judged(what), BAD);
            }
            for (int what = 0; what <= 2; what++) {
                int asked = what;
                refused(WeighCourt::new, x -> x.judged(asked), STATE);
                refused(() -> fixed(1), x -> x.judged(asked), STATE);
            }
        });
        edge(36, "0 the least TRUTH whose row another one has, too (NONE)", () -> {
            WeighCourt x = fixed(1);
            x.judge(0, 1);
            judgedAre(x, 2, 3, 2);
            x.fix(0, 4, 8);
            x.judge(0, 1);
            judgedAre(x, 0, 3, 2);
            x.fix(1, 1, 4);
            x.judge(0, 2);
            judgedAre(x, NONE, 4, 1);
            WeighCourt all = queues();
            all.judge(0, 6);
            judgedAre(all, 0, 1, 4);
        });
        edge(36, "(without a TRUTH LEFT NONE, 0, 0)", () -> {
            WeighCourt x = fixed(1);
            load(x, 0, some(0), some(1));
            x.weigh(0, 3);
            due(x.judge(0, 1), 0);
            judgedAre(x, NONE, 0, 0);
        });
    }

    private static void judgedSince() {
        edge(36, "Of the latest judge() that told how many", () -> {
            WeighCourt x = fixed(2);
            x.judge(0, 1);
            x.judge(0, 3);
            x.judge(1, 1);
            x.judge(0, 0);
            x.judge(2, 1);
            judgedAre(x, 2, 3, 2);
            load(x, 0, some(0), some(1));
            x.weigh(0, 0);
            judgedAre(x, 2, 3, 2);
            x.judge(0, 2);
            judgedAre(x, 2, 1, 2);
        });
        edge(36, "STATE: there was none since coins()", () -> {
            WeighCourt x = fixed(1);
            x.judge(0, 1);
            x.coins(41, 1, 1, 1);
            due(x.judged(0), 2);
            x.coins(4, 1, 1, 1);
            for (int what = 0; what <= 2; what++) due(x.judged(what), STATE);
        });
    }

    private static void count() {
        edge(37, "How many: 0 COINS, 1 TRUTHS, 2 those LEFT, 3 BALANCES that came, 4 those that are there", () -> {
            int[] told = {4, 8, 4, 8, 6};
            for (int what = 0; what <= 4; what++) due(rich().count(what), told[what]);
        });
        edge(37, "8 STEPS told in all, 9 ROWS, 10 FINDINGS ever. BAD.", () -> {
            for (int what : some(LOW, -1, 11, HIGH)) {
                refused(x -> x.count(what), BAD);
                refused(WeighCourt::new, x -> x.count(what), BAD);
            }
            due(rich().count(8), 1000);
            due(rich().count(9), 1);
            due(rich().count(10), 1);
        });
        edge(37, "7 STEPS of the SEARCH (0: there is none)", () -> {
            due(new WeighCourt().count(7), 0);
            WeighCourt x = court(2, 1, 1, 1, 0);
            x.search(0, 5);
            due(x.count(7), 5);
            x.goOn(10000);
            due(x.count(7), 6);
            x.search(0, 1);
            due(x.count(7), 1);
            x.lies(0);
            due(x.count(7), 0);
            due(x.count(8), 10006);
        });
    }

    private static void countEach() {
        edge(37, "5 WEIGHINGS since coins() (that were not undone)", () -> {
            WeighCourt x = rich();
            due(x.count(5), 1);
            x.weigh(LAST, 0);
            due(x.count(5), 2);
            x.undo();
            x.undo();
            due(x.count(5), 0);
            x.weigh(PLAIN, 0);
            x.coins(4, 1, 1, 1);
            due(x.count(5), 0);
        });
        edge(37, "10 FINDINGS ever", () -> {
            WeighCourt x = rich();
            x.at(PLAIN, 0, 9);
            x.complain(PLAIN);
            x.weigh(TAKEN, 0);
            due(x.count(10), 4);
            x.balance(9);
            x.undo();
            x.coins(4, 1, 1, 1);
            x.coins(40, 0, 3, 3);
            due(x.count(10), 4);
        });
    }

    private static long hash(int... numbers) {
        long h = 17;
        for (int v : numbers) h = 31 * h + v;
        return h;
    }

    private static void digest() {
        edge(38, "A long h, 17, then 31 h + v for: COINS; LIES; of each TRUTH its LIES (-1: STRUCK)", () -> {
            due(new WeighCourt().digest(), hash(0, 0, 0));
            due(court(3, 1, 1, 1).digest(), hash(3, 0, 0, 0, 0));
            WeighCourt x = court(3, 1, 1, 1, 5);
            x.lies(1);
            load(x, 0, some(0), some(1));
            x.weigh(0, 1);
            x.weigh(0, -1);
            x.take(0);
            due(x.digest(), hash(3, 1, 1, 1, -1, -1));
        });
        edge(38, "A long h", () -> {
            // Far beyond what a long holds: it wraps around.
            WeighCourt x = court(20, 0, 3, 3);
            int[] numbers = new int[9923];
            numbers[0] = 20;
            due(x.digest(), hash(numbers));
            x.lies(3);
            numbers[1] = 3;
            due(x.digest(), hash(numbers));
        });
    }

    private static void digestOfBalances() {
        edge(38, "of each BALANCE that came its KIND (-1: it was TAKEN, and nothing else of it)", () -> {
            WeighCourt x = court(1, 0, 0, 1, 0, 3, 5);
            x.pan(1, 0, 2);
            due(x.digest(), hash(1, 0, 0, 0, 0, -1, -1, 3, 0, 2, -1, -1, -1, 5, 0, -1, -1));
            x.take(1);
            due(x.digest(), hash(1, 0, 0, 0, 0, -1, -1, -1, 5, 0, -1, -1));
            x.take(2);
            due(x.digest(), hash(1, 0, 0, 0, 0, -1, -1, -1, -1));
        });
        edge(38, "of its two PANS (but of QUEUES) how many PLACES (-1: missing), and what is at each (-1)", () -> {
            WeighCourt x = court(2, 1, 1, 1, 0);
            x.pan(0, 0, 0);
            due(x.digest(), hash(2, 0, 0, 0, 0, 0, 0, -1));
            load(x, 0, some(1), some(0, -1));
            due(x.digest(), hash(2, 0, 0, 0, 0, 0, 1, 1, 2, 0, -1));
            x.queue(0, 0, -1);
            due(x.digest(), hash(2, 0, 0, 0, 0, 0, 1, 1, 2, 0, -1, 6, 0));
            x.weigh(1, -1);
            due(x.digest(), hash(2, 0, 0, -1, 0, 1, 1, 1, 2, 0, -1, 6, 1));
            x.unpan(0, 1);
            due(x.digest(), hash(2, 0, 0, -1, 0, 1, 1, 1, -1, 6, 1));
            x.take(1);
            due(x.digest(), hash(2, 0, 0, -1, 0, 1, 1, 1, -1, -1));
        });
    }

    private static void status() {
        edge(39, "0: none so far", () -> {
            due(new WeighCourt().status(), 0);
            WeighCourt x = court(4, 1, 1, 1, 0);
            x.balance(6);
            x.undo();
            x.coins(40, 0, 3, 3);
            x.is(0, 1);
            due(x.status(), 0);
        });
        edge(39, "The latest FINDING of a call that was found", () -> {
            WeighCourt x = rich();
            due(x.status(), 2);
            x.take(TAKEN);
            due(x.status(), 1);
            x.at(SCALE, 1, 0);
            due(x.status(), 2);
            x.at(SCALE, 0, 3);
            due(x.status(), 3);
            x.as(PLAIN, 1);
            due(x.status(), 4);
            x.pan(PLAIN, 0, -1);
            due(x.status(), 5);
            x.complain(LIAR);
            due(x.status(), 6);
            x.complain(PLAIN);
            due(x.status(), 5);
            x.weigh(PLAIN, 9);
            x.pan(PLAIN, 0, 0);
            x.coins(4, 1, 1, 1);
            due(x.status(), 5);
        });
    }
}
