/** Promises 18 and 19, and what BALANCES answer by their BODIES: one test for each sentence that names a boundary case. */
public final class EdgesOfWishesTest extends Edges {
    public static void main(String[] args) {
        wishesAsked();
        wishesFound();
        tells();
        most();
        cost();
        costBelow();
        sure();
        used();
        traceKept();
        traceLeft();
        done(18, 19);
    }

    /** BALANCES 0 to 5 are of the KINDS 0 to 5. */
    private static WeighCourt kinds() {
        return court(40, 1, 1, 1, 0, 1, 2, 3, 4, 5);
    }

    private static void wishesAsked() {
        edge(18, "0 TELLS of d (-3 to 3", () -> {
            for (int d : some(LOW, -4, 4, HIGH)) {
                refused(x -> x.wish(PLAIN, 0, d), BAD);
                refused(x -> x.wish(QUEUE, 0, d), BAD);
                refused(x -> x.wish(TAKEN, 0, d), BAD);
            }
            for (int d = -3; d <= 3; d++) due(rich().wish(SCALE, 0, d), d);
        });
        edge(18, "with 1 to 4 d counts for nothing, whatever it is", () -> {
            int[] answers = {0, 3, 1, 1, 0};
            for (int what = 1; what <= 4; what++) {
                for (int d : some(LOW, -4, 0, 4, HIGH)) due(rich().wish(SCALE, what, d), answers[what]);
            }
        });
        edge(18, "What a BALANCE answers: 0 TELLS of d (-3 to 3; with 1 to 4 d counts for nothing, whatever it is), 1 MOST, 2 COST, 3 SURE; 4 how often it was USED. BAD", () -> {
            for (int what : some(LOW, -1, 5, HIGH)) {
                refused(x -> x.wish(PLAIN, what, 0), BAD);
                refused(x -> x.wish(TAKEN, what, 0), BAD);
            }
        });
        edge(18, "a number that none came with is BAD", () -> {
            for (int what = 0; what <= 4; what++) {
                int asked = what;
                noneCameWith((x, b) -> x.wish(b, asked, 0));
            }
            due(rich().wish(LAST, 1, 0), 1);
        });
    }

    private static void wishesFound() {
        edge(18, "one that was TAKEN NO BALANCE", () -> {
            for (int what = 0; what <= 4; what++) {
                int asked = what;
                wasTaken((x, b) -> x.wish(b, asked, 0));
            }
        });
        edge(18, "NO BALANCE: also one of a QUEUE's that was TAKEN (1, 2; as its turn to be asked comes)", () -> {
            found(x -> x.wish(GAPPED, 1, 0), NO_BALANCE);
            found(x -> x.wish(GAPPED, 2, 0), NO_BALANCE);
            due(rich().wish(GAPPED, 3, 0), 1);
            due(rich().wish(GAPPED, 4, 0), 0);
            int[][] askedFirst = {{}, {20}, {20, 21, 20}};
            for (int taken = 0; taken < 3; taken++) {
                WeighCourt x = court(4, 1, 1, 1, 0, 1, 5);
                x.queue(0, 1, 2);
                x.take(taken);
                due(x.wish(3, 1, 0), NO_BALANCE);
                due(x.trace(0), 26);
                for (int i = 0; i < askedFirst[taken].length; i++) due(x.trace(1 + i), askedFirst[taken][i]);
                due(x.trace(1 + askedFirst[taken].length), NONE);
                due(x.wish(3, 2, 0), NO_BALANCE);
                due(x.trace(0), 36);
                due(x.trace(taken), taken == 0 ? 36 : 30);
                due(x.trace(1 + taken), NONE);
            }
        });
        edge(18, "NOT THAT ONE: 0 of a QUEUE", () -> {
            for (int d = -3; d <= 3; d++) {
                int of = d;
                found(x -> x.wish(QUEUE, 0, of), NOT_THAT_ONE);
                found(x -> x.wish(GAPPED, 0, of), NOT_THAT_ONE);
            }
        });
        edge(18, "THE TRACE is empty ahead of it, if it is not BAD", () -> {
            WeighCourt x = rich();
            traceIs(x, 21, 20);
            x.wish(PLAIN, 0, 4);
            x.wish(CAME, 0, 0);
            x.wish(PLAIN, 5, 0);
            traceIs(x, 21, 20);
            x.wish(PLAIN, 3, 0);
            traceIs(x, 40);
            x.wish(TAKEN, 1, 0);
            traceIs(x);
            x.wish(PLAIN, 3, 0);
            x.wish(QUEUE, 0, 0);
            traceIs(x);
            x.wish(PLAIN, 3, 0);
            x.wish(PLAIN, 4, 0);
            traceIs(x);
        });
    }

    private static void tellsAre(int b, int... told) {
        for (int d = -3; d <= 3; d++) due(kinds().wish(b, 0, d), told[d + 3]);
    }

    private static void tells() {
        edge(18, "10 of PLAIN ones: 1, 0, -1, as d is above, at, below 0", () -> {
            tellsAre(0, -1, -1, -1, 0, 1, 1, 1);
            tellsAre(5, -1, -1, -1, 0, 1, 1, 1);
        });
        edge(18, "11 of SCALES: d", () -> tellsAre(1, -3, -2, -1, 0, 1, 2, 3));
        edge(18, "12 of COARSE ones: AS ABOVE / 2", () -> {
            tellsAre(2, -1, -1, 0, 0, 0, 1, 1);
            tellsAre(3, -1, -1, 0, 0, 0, 1, 1);
        });
        edge(18, "14 of BLUNT ones: 0 if d is -1, 0 or 1, else AS ABOVE", () -> {
            tellsAre(4, -1, -1, 0, 0, 0, 1, 1);
            for (int d = -3; d <= 3; d++) {
                WeighCourt x = kinds();
                x.wish(4, 0, d);
                if (d >= -1 && d <= 1) traceIs(x, 14);
                else traceIs(x, 14, 10);
            }
        });
    }

    private static void most() {
        edge(18, "20 of PLAIN ones: 1. 21 of SCALES: AS ABOVE, and 2. 22 of COARSE ones: AS ABOVE / 2", () -> {
            int[] most = {1, 3, 1, 1, 1, 1};
            for (int kind = 0; kind <= 5; kind++) due(kinds().wish(kind, 1, 0), most[kind]);
        });
        edge(18, "26 of QUEUES: the greatest MOST of its BALANCES (asked in their order)", () -> {
            int[][] queues = {{0, 0, -1, 1}, {0, 1, -1, 3}, {1, 0, -1, 3}, {2, 4, 5, 1}, {0, 2, 1, 3}, {1, 0, 2, 3}};
            for (int[] q : queues) {
                WeighCourt x = kinds();
                x.queue(q[0], q[1], q[2]);
                due(x.wish(6, 1, 0), q[3]);
            }
            WeighCourt x = kinds();
            x.queue(0, 1, -1);
            x.wish(6, 1, 0);
            traceIs(x, 26, 20, 21, 20);
            x.queue(1, 0, -1);
            x.wish(7, 1, 0);
            traceIs(x, 26, 21, 20, 20);
        });
    }

    /** So many COINS lie left, so many right; each PAN has a PLACE more, without one. */
    private static WeighCourt loaded(int b, int left, int right) {
        WeighCourt x = kinds();
        x.pan(b, 0, Math.min(20, left + 1));
        x.pan(b, 1, Math.min(20, right + 1));
        for (int i = 0; i < left; i++) x.put(b, 0, i, i);
        for (int i = 0; i < right; i++) x.put(b, 1, i, 20 + i);
        return x;
    }

    private static void cost() {
        edge(18, "30 of PLAIN ones: 1, and half as many as the COINS on both PANS, cut", () -> {
            int[][] costs = {{0, 0, 1}, {1, 0, 1}, {0, 1, 1}, {1, 1, 2}, {2, 1, 2}, {1, 2, 2}, {2, 2, 3}, {20, 19, 20},
                {20, 20, 21}};
            for (int[] c : costs) {
                for (int b : some(0, 1, 2, 4)) due(loaded(b, c[0], c[1]).wish(b, 2, 0), c[2]);
            }
            // The document does not say it: a COIN at two PLACES is taken to lie at both, and counts twice.
            WeighCourt x = loaded(0, 1, 0);
            x.put(0, 1, 0, 0);
            due(x.wish(0, 2, 0), 2);
        });
        edge(18, "(a PAN that is missing has none)", () -> {
            due(kinds().wish(0, 2, 0), 1);
            WeighCourt x = loaded(0, 4, 6);
            x.unpan(0, 0);
            due(x.wish(0, 2, 0), 4);
            x.unpan(0, 1);
            due(x.wish(0, 2, 0), 1);
            WeighCourt y = loaded(0, 4, 6);
            y.unpan(0, 1);
            due(y.wish(0, 2, 0), 3);
        });
    }

    private static void costBelow() {
        edge(18, "33 of WORN ones: 3 times AS ABOVE, and how often it was USED", () -> {
            due(kinds().wish(3, 2, 0), 3);
            WeighCourt x = loaded(3, 1, 1);
            for (int used = 0; used <= 4; used++) {
                due(x.wish(3, 2, 0), 6 + used);
                x.weigh(3, 0);
            }
            x.undo();
            due(x.wish(3, 2, 0), 11);
        });
        edge(18, "35 of LYING ones: AS ABOVE / 2", () -> {
            int[][] costs = {{0, 0, 0}, {1, 0, 0}, {1, 1, 1}, {2, 2, 1}, {3, 3, 2}};
            for (int[] c : costs) due(loaded(5, c[0], c[1]).wish(5, 2, 0), c[2]);
        });
        edge(18, "36 of QUEUES: those of its BALANCES together (asked in their order)", () -> {
            WeighCourt x = loaded(3, 2, 2);
            x.queue(3, 0, -1);
            due(x.wish(6, 2, 0), 10);
            traceIs(x, 36, 33, 30, 30);
            x.queue(5, 0, 3);
            due(x.wish(7, 2, 0), 10);
            traceIs(x, 36, 35, 30, 30, 33, 30);
        });
        edge(18, "/ is cut towards 0", () -> {
            due(kinds().wish(2, 0, -3), -1);
            due(kinds().wish(2, 0, -1), 0);
            due(kinds().wish(3, 0, -1), 0);
            due(kinds().wish(5, 2, 0), 0);
        });
    }

    private static void sure() {
        edge(18, "40 of all: 1. 45 of LYING ones: 0", () -> {
            for (int kind = 0; kind <= 6; kind++) {
                WeighCourt x = kinds();
                x.queue(5, 5, -1);
                due(x.wish(kind, 3, 0), kind == 5 ? 0 : 1);
                traceIs(x, kind == 5 ? 45 : 40);
            }
        });
    }

    private static void used() {
        edge(18, "4 how often it was USED", () -> {
            WeighCourt x = loaded(0, 1, 1);
            x.queue(0, 1, -1);
            due(x.wish(0, 4, 0), 0);
            x.weigh(0, 0);
            due(x.wish(0, 4, 0), 1);
            due(x.wish(6, 4, 0), 0);
            x.undo();
            x.parts(0, 0);
            due(x.wish(0, 4, 0), 1);
            x.weigh(6, 0);
            due(x.wish(0, 4, 0), 2);
            due(x.wish(6, 4, 0), 1);
            due(x.wish(1, 4, 0), 0);
        });
    }

    private static void traceKept() {
        edge(19, "(the first 6 are kept)", () -> {
            WeighCourt x = court(4, 1, 1, 1, 0, 1);
            x.queue(1, 1, 0);
            x.queue(1, 1, 1);
            x.wish(2, 1, 0);
            traceIs(x, 26, 21, 20, 21, 20, 20);
            x.wish(3, 1, 0);
            traceIs(x, 26, 21, 20, 21, 20, 21);
        });
        edge(19, "Number i of THE TRACE, from the first on (the first 6 are kept). NONE.", () -> {
            due(rich().trace(0), 21);
            due(rich().trace(1), 20);
            for (int i : some(LOW, -1, 2, 5, 6, HIGH)) due(rich().trace(i), NONE);
            for (int i : some(LOW, -1, 0, 1, 5, 6, HIGH)) due(new WeighCourt().trace(i), NONE);
        });
    }

    private static void traceLeft() {
        edge(19, "Each BODY leaves its number in THE TRACE as it begins, ahead of what it asks", () -> {
            int[][] asked = {{0, 0, 10}, {1, 0, 11}, {2, 0, 12, 11}, {3, 0, 12, 11}, {5, 0, 10}, {0, 1, 20}, {1, 1, 21, 20},
                {2, 1, 22, 21, 20}, {3, 1, 22, 21, 20}, {4, 1, 20}, {5, 1, 20}, {0, 2, 30}, {1, 2, 30}, {2, 2, 30},
                {3, 2, 33, 30}, {4, 2, 30}, {5, 2, 35, 30}};
            for (int[] a : asked) {
                WeighCourt x = kinds();
                x.wish(a[0], a[1], 0);
                traceIs(x, java.util.Arrays.copyOfRange(a, 2, a.length));
            }
        });
        edge(19, "(BODIES that are asked for TRUTHS, in 3 to 6, leave nothing in THE TRACE.)", () -> {
            WeighCourt x = court(4, 1, 1, 1, 0, 1);
            x.queue(0, 1, -1);
            load(x, 0, some(0), some(1));
            load(x, 1, some(0), some(1));
            x.wish(0, 3, 0);
            x.parts(2, 0);
            x.weigh(1, 0);
            x.undo();
            x.search(2, 2);
            x.goOn(1000);
            due(x.least(), 2);
            x.walk(0);
            x.prove();
            x.check();
            x.fix(0, 1, 2);
            x.judge(2, 1);
            traceIs(x, 40);
        });
    }
}
