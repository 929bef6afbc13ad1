/** Promises 7 to 17, and the document's part 2 BALANCES: one test for each sentence that names a boundary case. */
public final class EdgesOfBalancesTest extends Edges {
    public static void main(String[] args) {
        balance();
        queueOfWhom();
        queueIsRefused();
        take();
        pan();
        unpan();
        put();
        putIsFound();
        at();
        copy();
        copyIsFound();
        complaints();
        complain();
        kinds();
        done(7, 17);
    }

    private static WeighCourt courtWith(int balances) {
        WeighCourt x = court(4, 1, 1, 1);
        for (int i = 0; i < balances; i++) x.balance(0);
        return x;
    }

    private static void balance() {
        edge(7, "A BALANCE of a KIND (0 to 5): its number. BAD", () -> {
            for (int kind : some(LOW, -1, 6, 7, HIGH)) refused(x -> x.balance(kind), BAD);
            WeighCourt x = new WeighCourt();
            for (int kind = 0; kind <= 5; kind++) due(x.balance(kind), kind);
            for (int kind = 0; kind <= 5; kind++) due(x.take(kind), kind);
        });
        edge(7, "FULL: there were 12", () -> {
            due(courtWith(11).balance(5), 11);
            refused(() -> courtWith(12), x -> x.balance(5), FULL);
            WeighCourt x = courtWith(12);
            x.take(0);
            x.take(11);
            due(x.balance(0), FULL);
            due(x.count(3), 12);
        });
        edge(7, "Refusals are answers, the first of these that fits", () -> {
            refused(() -> courtWith(12), x -> x.balance(6), BAD);
            refused(() -> courtWith(12), x -> x.balance(-1), BAD);
        });
        edge(7, "each is missing (at first)", () -> {
            for (int kind = 0; kind <= 5; kind++) {
                WeighCourt x = new WeighCourt();
                x.balance(kind);
                due(x.unpan(0, 0), NO_PAN);
                due(x.unpan(0, 1), NO_PAN);
            }
        });
    }

    private static void queueOfWhom() {
        edge(8, "(c -1: of a, b alone; one may come twice)", () -> {
            WeighCourt x = court(4, 1, 1, 1, 1, 0, 0);
            due(x.queue(1, 2, -1), 3);
            due(x.wish(3, 1, 0), 1);
            traceIs(x, 26, 20, 20);
            due(x.queue(1, 2, 0), 4);
            due(x.wish(4, 1, 0), 3);
            traceIs(x, 26, 20, 20, 21, 20);
            due(x.queue(1, 1, -1), 5);
            due(x.wish(5, 2, 0), 2);
            due(x.queue(1, 1, 1), 6);
            due(x.wish(6, 2, 0), 3);
            due(x.queue(0, 1, 0), 7);
        });
        edge(8, "BAD: no such numbers", () -> {
            for (int none : some(LOW, -1, CAME, HIGH)) {
                refused(x -> x.queue(none, PLAIN, -1), BAD);
                refused(x -> x.queue(PLAIN, none, -1), BAD);
                refused(x -> x.queue(PLAIN, none, PLAIN), BAD);
            }
            for (int none : some(LOW, -2, CAME, HIGH)) refused(x -> x.queue(PLAIN, PLAIN, none), BAD);
            due(rich().queue(LAST, LAST, LAST), CAME);
            refused(WeighCourt::new, x -> x.queue(0, 0, -1), BAD);
        });
    }

    private static void queueIsRefused() {
        edge(8, "FULL", () -> {
            due(courtWith(11).queue(0, 10, -1), 11);
            refused(() -> courtWith(12), x -> x.queue(0, 11, -1), FULL);
            refused(() -> courtWith(12), x -> x.queue(0, 12, -1), BAD);
        });
        edge(8, "(FULL ahead of FINDINGS.)", () -> {
            WeighCourt x = courtWith(11);
            x.queue(0, 1, -1);
            x.take(2);
            due(x.queue(2, 0, -1), FULL);
            due(x.queue(0, 1, 11), FULL);
            due(x.status(), 0);
        });
        edge(8, "NO BALANCE: a, b, c", () -> {
            for (int taken : some(TAKEN, TAKEN_QUEUE)) {
                found(x -> x.queue(taken, PLAIN, -1), NO_BALANCE);
                found(x -> x.queue(PLAIN, taken, -1), NO_BALANCE);
                found(x -> x.queue(PLAIN, PLAIN, taken), NO_BALANCE);
            }
        });
        edge(8, "NOT THAT ONE: a, b, c are QUEUES", () -> {
            found(x -> x.queue(QUEUE, PLAIN, -1), NOT_THAT_ONE);
            found(x -> x.queue(PLAIN, QUEUE, -1), NOT_THAT_ONE);
            found(x -> x.queue(PLAIN, PLAIN, QUEUE), NOT_THAT_ONE);
        });
        edge(8, "of several the first as told", () -> {
            found(x -> x.queue(QUEUE, TAKEN, -1), NO_BALANCE);
            found(x -> x.queue(QUEUE, QUEUE, TAKEN), NO_BALANCE);
            refused(x -> x.queue(TAKEN, QUEUE, CAME), BAD);
        });
    }

    private static void take() {
        edge(9, "A BALANCE is TAKEN: its KIND", () -> {
            WeighCourt x = court(4, 1, 1, 1, 0, 1, 2, 3, 4, 5);
            x.queue(0, 1, -1);
            for (int b = 0; b <= 6; b++) {
                due(x.take(b), b);
                due(x.count(4), 6 - b);
                due(x.count(3), 7);
            }
            due(x.balance(0), 7);
        });
        edge(9, "a number that none came with is BAD", () -> {
            noneCameWith(WeighCourt::take);
            refused(WeighCourt::new, x -> x.take(0), BAD);
            due(rich().take(LAST), 4);
        });
        edge(9, "one that was TAKEN NO BALANCE", () -> wasTaken(WeighCourt::take));
    }

    private static void pan() {
        edge(10, "A PAN has n PLACES (0 to 20), without COINS: 1", () -> {
            for (int n : some(0, 1, 19, 20)) {
                WeighCourt x = rich();
                due(x.pan(PLAIN, 0, n), 1);
                for (int place = 0; place < n; place++) due(x.at(PLAIN, 0, place), -1);
                due(x.at(PLAIN, 0, n), BEYOND);
                due(x.at(PLAIN, 1, 0), 1);
            }
        });
        edge(10, "BAD: also n above 20", () -> {
            for (int n : some(21, 22, HIGH)) refused(x -> x.pan(PLAIN, 0, n), BAD);
            refused(x -> x.pan(TAKEN, 0, 21), BAD);
            refused(x -> x.pan(QUEUE, 0, 21), BAD);
            for (int side : some(LOW, -1, 2, HIGH)) refused(x -> x.pan(PLAIN, side, 1), BAD);
            due(rich().pan(PLAIN, 1, 20), 1);
        });
        edge(10, "a number that none came with is BAD", () -> {
            noneCameWith((x, b) -> x.pan(b, 0, 1));
            due(rich().pan(LAST, 0, 1), 1);
        });
        edge(10, "one that was TAKEN NO BALANCE", () -> {
            wasTaken((x, b) -> x.pan(b, 0, 1));
            wasTaken((x, b) -> x.pan(b, 0, -1));
        });
        edge(10, "NOT THAT ONE: a QUEUE", () -> {
            found(x -> x.pan(QUEUE, 0, 1), NOT_THAT_ONE);
            found(x -> x.pan(QUEUE, 1, -1), NOT_THAT_ONE);
        });
        edge(10, "SIZE: n below 0", () -> {
            for (int n : some(-1, -2, LOW)) found(x -> x.pan(PLAIN, 0, n), SIZE);
            found(x -> x.pan(LIAR, 1, -1), SIZE);
            due(rich().pan(PLAIN, 0, 0), 1);
        });
    }

    private static void unpan() {
        edge(11, "A PAN is missing from now on: how many PLACES it had", () -> {
            for (int n : some(0, 1, 20)) {
                WeighCourt x = rich();
                x.pan(PLAIN, 1, n);
                due(x.unpan(PLAIN, 1), n);
                due(x.at(PLAIN, 1, 0), NO_PAN);
                due(x.at(PLAIN, 0, 0), 0);
                x.pan(PLAIN, 1, 1);
                due(x.at(PLAIN, 1, 0), -1);
            }
        });
        edge(11, "a number that none came with is BAD", () -> {
            noneCameWith((x, b) -> x.unpan(b, 0));
            due(rich().unpan(LAST, 0), 1);
            for (int side : some(LOW, -1, 2, HIGH)) refused(x -> x.unpan(PLAIN, side), BAD);
        });
        edge(11, "one that was TAKEN NO BALANCE", () -> wasTaken((x, b) -> x.unpan(b, 0)));
        edge(11, "NOT THAT ONE: a QUEUE", () -> found(x -> x.unpan(QUEUE, 0), NOT_THAT_ONE));
        edge(11, "NO PAN", () -> {
            found(x -> x.unpan(SCALE, 1), NO_PAN);
            due(rich().unpan(SCALE, 0), 3);
            WeighCourt x = rich();
            x.unpan(SCALE, 0);
            due(x.unpan(SCALE, 0), NO_PAN);
        });
    }

    private static void put() {
        edge(12, "A COIN (-1: none) comes to a PLACE: what was there (-1)", () -> {
            WeighCourt x = rich();
            due(x.put(SCALE, 0, 0, 3), -1);
            due(x.put(SCALE, 0, 0, 0), 3);
            due(x.put(SCALE, 0, 0, -1), 0);
            due(x.put(SCALE, 0, 0, -1), -1);
            due(x.at(SCALE, 0, 1), 2);
        });
        edge(12, "BAD: also no such COIN", () -> {
            for (int coin : some(LOW, -2, 4, HIGH)) refused(x -> x.put(SCALE, 0, 0, coin), BAD);
            for (int coin : some(-1, 0, 3)) due(rich().put(SCALE, 0, 0, coin), -1);
            refused(x -> x.put(TAKEN, 0, 0, 4), BAD);
            refused(x -> x.put(SCALE, 1, 9, 4), BAD);
            for (int side : some(LOW, -1, 2, HIGH)) refused(x -> x.put(PLAIN, side, 0, 0), BAD);
            WeighCourt without = new WeighCourt();
            without.balance(0);
            without.pan(0, 0, 1);
            due(without.put(0, 0, 0, 0), BAD);
            due(without.put(0, 0, 0, -1), -1);
        });
        edge(12, "a number that none came with is BAD", () -> {
            noneCameWith((x, b) -> x.put(b, 0, 0, 0));
            due(rich().put(LAST, 0, 0, 0), 2);
        });
    }

    private static void putIsFound() {
        edge(12, "one that was TAKEN NO BALANCE", () -> wasTaken((x, b) -> x.put(b, 0, 99, 0)));
        edge(12, "NOT THAT ONE", () -> found(x -> x.put(QUEUE, 0, 99, 0), NOT_THAT_ONE));
        edge(12, "NO PAN", () -> {
            found(x -> x.put(SCALE, 1, 0, 0), NO_PAN);
            found(x -> x.put(SCALE, 1, -1, 0), NO_PAN);
            due(rich().put(SCALE, 0, 0, 0), -1);
        });
        edge(12, "BEYOND", () -> {
            for (int place : some(LOW, -1, 3, 20, HIGH)) found(x -> x.put(SCALE, 0, place, 0), BEYOND);
            for (int place : some(0, 2)) due(rich().put(SCALE, 0, place, 0), -1);
            WeighCourt x = rich();
            x.pan(SCALE, 0, 0);
            due(x.put(SCALE, 0, 0, 0), BEYOND);
            x.pan(SCALE, 0, 20);
            due(x.put(SCALE, 0, 19, 0), -1);
            due(x.put(SCALE, 0, 20, 0), BEYOND);
        });
    }

    private static void at() {
        edge(13, "What is at a PLACE (-1: none)", () -> {
            int[] there = {-1, 2, -1};
            for (int place = 0; place < 3; place++) due(rich().at(SCALE, 0, place), there[place]);
            due(rich().at(PLAIN, 0, 0), 0);
            due(rich().at(PLAIN, 1, 0), 1);
        });
        edge(13, "a number that none came with is BAD", () -> {
            noneCameWith((x, b) -> x.at(b, 0, 0));
            due(rich().at(LAST, 0, 0), 2);
            for (int side : some(LOW, -1, 2, HIGH)) refused(x -> x.at(PLAIN, side, 0), BAD);
        });
        edge(13, "one that was TAKEN NO BALANCE", () -> wasTaken((x, b) -> x.at(b, 0, 99)));
        edge(13, "NOT THAT ONE", () -> found(x -> x.at(QUEUE, 0, 99), NOT_THAT_ONE));
        edge(13, "NO PAN", () -> {
            found(x -> x.at(SCALE, 1, 0), NO_PAN);
            found(x -> x.at(SCALE, 1, 99), NO_PAN);
        });
        edge(13, "BEYOND", () -> {
            for (int place : some(LOW, -1, 3, 20, HIGH)) found(x -> x.at(SCALE, 0, place), BEYOND);
            due(rich().at(SCALE, 0, 2), -1);
        });
    }

    /** Right PANS: of 0 COINS 0 to 3 and a PLACE without one, of 1 three PLACES, of 2 none; 3 is a QUEUE, 4 TAKEN. */
    private static WeighCourt pans() {
        WeighCourt x = court(4, 1, 1, 1, 0, 5, 1);
        x.queue(0, 1, -1);
        x.balance(0);
        x.take(4);
        x.pan(0, 1, 5);
        for (int i = 0; i < 4; i++) x.put(0, 1, i, i);
        x.pan(1, 1, 3);
        x.put(1, 1, 1, 3);
        return x;
    }

    private static void placesAre(WeighCourt x, int b, int... coins) {
        for (int place = 0; place < coins.length; place++) due(x.at(b, 1, place), coins[place]);
        due(x.at(b, 1, coins.length), BEYOND);
    }

    private static void copied(int from, int c, int to, int n, int... coins) {
        WeighCourt x = pans();
        due(x.copy(0, 1, from, c, to, n), n);
        placesAre(x, c, coins);
    }

    private static void copy() {
        edge(14, "n PLACES of a PAN of a BALANCE, from one on, are copied to the PAN of that side of another one (or the same)", () -> {
            copied(2, 1, 0, 3, 2, 3, -1);
            copied(0, 1, 2, 1, -1, 3, 0);
            copied(3, 0, 0, 1, 3, 1, 2, 3, -1);
            WeighCourt x = pans();
            x.copy(0, 1, 0, 1, 0, 3);
            placesAre(x, 0, 0, 1, 2, 3, -1);
            due(x.at(1, 0, 0), NO_PAN);
        });
        edge(14, "as if all were taken ahead: n", () -> {
            copied(0, 0, 1, 4, 0, 0, 1, 2, 3);
            copied(1, 0, 0, 4, 1, 2, 3, -1, -1);
            copied(0, 0, 0, 5, 0, 1, 2, 3, -1);
        });
        edge(14, "BEYOND: n, from, to below 0, or more than there are", () -> {
            copied(5, 1, 3, 0, -1, 3, -1);
            copied(0, 1, 0, 0, -1, 3, -1);
            copied(2, 1, 0, 3, 2, 3, -1);
            int[][] beyond = {{0, 0, -1}, {-1, 0, 1}, {0, -1, 1}, {-1, 0, 0}, {0, -1, 0}, {3, 0, 3}, {0, 1, 3}, {0, 0, 4},
                {6, 0, 0}, {0, 4, 0}, {5, 0, 1}, {0, 3, 1}, {HIGH, 0, 1}, {0, HIGH, 1}, {1, 1, HIGH}, {HIGH, HIGH, HIGH},
                {LOW, 0, 0}, {0, LOW, 0}, {0, 0, LOW}, {1, 1, LOW}};
            for (int[] b : beyond) found(EdgesOfBalancesTest::pans, x -> x.copy(0, 1, b[0], 1, b[1], b[2]), BEYOND);
        });
    }

    private static void copyIsFound() {
        edge(14, "BAD (numbers of BALANCES, side)", () -> {
            for (int none : some(LOW, -1, 5, HIGH)) {
                refused(EdgesOfBalancesTest::pans, x -> x.copy(none, 1, 0, 0, 0, 1), BAD);
                refused(EdgesOfBalancesTest::pans, x -> x.copy(0, 1, 0, none, 0, 1), BAD);
                refused(EdgesOfBalancesTest::pans, x -> x.copy(4, 1, 0, none, 0, 1), BAD);
            }
            for (int side : some(LOW, -1, 2, HIGH)) {
                refused(EdgesOfBalancesTest::pans, x -> x.copy(0, side, 0, 1, 0, 1), BAD);
            }
        });
        edge(14, "NO BALANCE: b, c", () -> {
            found(EdgesOfBalancesTest::pans, x -> x.copy(4, 1, 0, 1, 0, 1), NO_BALANCE);
            found(EdgesOfBalancesTest::pans, x -> x.copy(0, 1, 0, 4, 0, 1), NO_BALANCE);
            found(EdgesOfBalancesTest::pans, x -> x.copy(4, 1, 0, 4, 0, 1), NO_BALANCE);
        });
        edge(14, "NOT THAT ONE: b, c", () -> {
            found(EdgesOfBalancesTest::pans, x -> x.copy(3, 1, 0, 1, 0, 1), NOT_THAT_ONE);
            found(EdgesOfBalancesTest::pans, x -> x.copy(0, 1, 0, 3, 0, 1), NOT_THAT_ONE);
        });
        edge(14, "NO PAN: b's, c's", () -> {
            found(EdgesOfBalancesTest::pans, x -> x.copy(2, 1, 0, 1, 0, 1), NO_PAN);
            found(EdgesOfBalancesTest::pans, x -> x.copy(0, 1, 0, 2, 0, 1), NO_PAN);
            found(EdgesOfBalancesTest::pans, x -> x.copy(0, 0, 0, 1, 0, 1), NO_PAN);
        });
        edge(14, "of several the first as told", () -> {
            found(EdgesOfBalancesTest::pans, x -> x.copy(3, 1, 0, 4, 0, 1), NO_BALANCE);
            found(EdgesOfBalancesTest::pans, x -> x.copy(4, 1, 0, 3, 0, 1), NO_BALANCE);
            found(EdgesOfBalancesTest::pans, x -> x.copy(2, 1, 0, 3, 0, 1), NOT_THAT_ONE);
            found(EdgesOfBalancesTest::pans, x -> x.copy(3, 1, 0, 2, 0, 1), NOT_THAT_ONE);
            found(EdgesOfBalancesTest::pans, x -> x.copy(2, 1, -1, 1, 0, 1), NO_PAN);
            found(EdgesOfBalancesTest::pans, x -> x.copy(0, 1, 0, 2, 0, -1), NO_PAN);
        });
    }

    private static void complaints() {
        edge(15, "The COMPLAINT of a BALANCE is the latest FINDING of a call of which it is the (first) BALANCE", () -> {
            complains(x -> x.queue(PLAIN, TAKEN, -1), PLAIN, NO_BALANCE);
            complains(x -> x.queue(QUEUE, PLAIN, -1), QUEUE, NOT_THAT_ONE);
            complains(x -> x.pan(LAST, 0, -1), LAST, SIZE);
            complains(x -> x.unpan(LIAR, 0), LIAR, NO_PAN);
            complains(x -> x.put(PLAIN, 0, 1, 0), PLAIN, BEYOND);
            complains(x -> x.at(QUEUE, 0, 0), QUEUE, NOT_THAT_ONE);
            complains(x -> x.copy(PLAIN, 0, 0, TAKEN, 0, 1), PLAIN, NO_BALANCE);
            complains(x -> x.copy(LAST, 0, 0, QUEUE, 0, 1), LAST, NOT_THAT_ONE);
            complains(x -> x.as(LAST, 5), LAST, NOT_THAT_ONE);
            complains(x -> x.wish(GAPPED, 1, 0), GAPPED, NO_BALANCE);
            complains(x -> x.weigh(GAPPED, 0), GAPPED, NO_BALANCE);
            complains(x -> x.parts(QUEUE, 0), QUEUE, NO_PAN);
            complains(x -> x.search(GAPPED, 1), GAPPED, NO_BALANCE);
            complains(x -> x.judge(GAPPED, 2), GAPPED, NO_BALANCE);
            complains(x -> x.complain(LAST), LAST, NOUGHT);
        });
        edge(15, "and was there", () -> {
            // What is asked of one that was TAKEN is nobody's COMPLAINT.
            int[] had = {NOUGHT, NO_PAN, NOUGHT, NO_BALANCE, NOUGHT, NOUGHT, NO_BALANCE, NOUGHT};
            WeighCourt x = rich();
            x.copy(TAKEN, 0, 0, PLAIN, 0, 1);
            x.queue(TAKEN, LAST, LIAR);
            x.weigh(TAKEN_QUEUE, 0);
            for (int b = 0; b < CAME; b++) due(x.complain(b), had[b]);
        });
        edge(15, "none at first", () -> {
            for (int b : some(PLAIN, LIAR, QUEUE, GAPPED, LAST)) due(rich().complain(b), NOUGHT);
        });
    }

    /** This one complains of it; each other one has the COMPLAINT that it had. */
    private static void complains(java.util.function.ToIntFunction<WeighCourt> call, int who, int of) {
        int[] had = {NOUGHT, NO_PAN, NOUGHT, NO_BALANCE, NOUGHT, NOUGHT, NO_BALANCE, NOUGHT};
        WeighCourt x = rich();
        due(call.applyAsInt(x), of);
        for (int b = 0; b < CAME; b++) due(x.complain(b), b == who ? of : had[b]);
    }

    private static void complain() {
        edge(15, "NOUGHT: it has none", () -> {
            found(x -> x.complain(PLAIN), NOUGHT);
            WeighCourt x = rich();
            x.complain(PLAIN);
            due(x.complain(PLAIN), NOUGHT);
            x.pan(PLAIN, 0, -1);
            due(x.complain(PLAIN), SIZE);
        });
        edge(15, "The BALANCE has its COMPLAINT told once more: that FINDING is found", () -> {
            found(x -> x.complain(SCALE), NO_PAN);
            WeighCourt x = rich();
            x.pan(LAST, 0, -1);
            int so = x.count(10);
            due(x.complain(SCALE), NO_PAN);
            due(x.status(), 2);
            due(x.count(10), so + 1);
            due(x.complain(SCALE), NO_PAN);
            due(x.count(10), so + 2);
        });
        edge(15, "a number that none came with is BAD", () -> noneCameWith(WeighCourt::complain));
        edge(15, "one that was TAKEN NO BALANCE", () -> {
            wasTaken(WeighCourt::complain);
            WeighCourt x = rich();
            x.take(SCALE);
            due(x.complain(SCALE), NO_BALANCE);
        });
    }

    private static void kinds() {
        String[] below = {"0", "01", "012", "0123", "04", "05", "6"};
        edge(16, "Whether a BALANCE is of a KIND, or of one below it: 1, 0", () -> {
            WeighCourt x = court(4, 1, 1, 1, 0, 1, 2, 3, 4, 5);
            x.queue(0, 1, -1);
            for (int b = 0; b < 7; b++) {
                for (int kind = 0; kind < 7; kind++) due(x.is(b, kind), below[b].indexOf('0' + kind) < 0 ? 0 : 1);
            }
            due(x.status(), 0);
        });
        edge(17, "Likewise: 1, or NOT THAT ONE", () -> {
            WeighCourt x = court(4, 1, 1, 1, 0, 1, 2, 3, 4, 5);
            x.queue(0, 1, -1);
            for (int b = 0; b < 7; b++) {
                for (int kind = 0; kind < 7; kind++) {
                    due(x.as(b, kind), below[b].indexOf('0' + kind) < 0 ? NOT_THAT_ONE : 1);
                }
            }
            found(y -> y.as(PLAIN, 1), NOT_THAT_ONE);
        });
        edge(16, "Whether a BALANCE is of a KIND, or of one below it: 1, 0. BAD", () -> {
            for (int kind : some(LOW, -1, 7, HIGH)) {
                refused(x -> x.is(PLAIN, kind), BAD);
                refused(x -> x.is(TAKEN, kind), BAD);
            }
            noneCameWith((x, b) -> x.is(b, 0));
        });
        edge(17, "Likewise: 1, or NOT THAT ONE. BAD", () -> {
            for (int kind : some(LOW, -1, 7, HIGH)) {
                refused(x -> x.as(PLAIN, kind), BAD);
                refused(x -> x.as(TAKEN, kind), BAD);
            }
            noneCameWith((x, b) -> x.as(b, 0));
        });
        edge(16, "one that was TAKEN NO BALANCE", () -> wasTaken((x, b) -> x.is(b, 0)));
        edge(17, "one that was TAKEN NO BALANCE", () -> wasTaken((x, b) -> x.as(b, 6)));
    }
}
