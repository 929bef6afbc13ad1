/** Promises 26 to 29, and of the document's part 4 WEIGHINGS and THE TREE: one test for each sentence that names a boundary case. */
public final class EdgesOfTreesTest extends Edges {
    public static void main(String[] args) {
        tree();
        node();
        nodes();
        verdicts();
        weighings();
        nodeCoin();
        walk();
        walkIsRefused();
        done(26, 29);
    }

    private static WeighCourt searched(int n, int least, int most, int kinds, int... balances) {
        WeighCourt x = court(n, least, most, kinds, balances);
        x.search(0, 10000);
        return x;
    }

    /** 0 | 1: coin 1, coins 2 and 3 (then 0 | 2), coin 0. */
    private static WeighCourt four() {
        return searched(4, 1, 1, 1, 0);
    }

    private static WeighCourt withoutAny() {
        return searched(1, 0, 1, 1, 0);
    }

    private static WeighCourt notOver() {
        WeighCourt x = court(4, 1, 1, 1, 0);
        x.search(0, 13);
        return x;
    }

    private static void tree() {
        edge(26, "NODES of THE TREE", () -> {
            due(four().tree(), 6);
            due(searched(1, 1, 1, 1, 0).tree(), 1);
            due(searched(3, 1, 1, 1, 0).tree(), 4);
            due(searched(2, 1, 1, 1, 0).tree(), 3);
        });
        edge(26, "STATE: there is none", () -> {
            refused(WeighCourt::new, WeighCourt::tree, STATE);
            refused(EdgesOfTreesTest::notOver, WeighCourt::tree, STATE);
            refused(EdgesOfTreesTest::withoutAny, WeighCourt::tree, STATE);
            WeighCourt x = notOver();
            x.goOn(1);
            due(x.tree(), 6);
        });
    }

    private static void node() {
        edge(27, "4 to 10 the NODE of the OUTCOME -3 to 3 (NONE). BAD", () -> {
            for (int i : some(LOW, -1, 6, HIGH)) refused(EdgesOfTreesTest::four, x -> x.node(i, 0), BAD);
            for (int what : some(LOW, -1, 11, HIGH)) refused(EdgesOfTreesTest::four, x -> x.node(0, what), BAD);
            due(four().node(5, 0), 0);
            due(four().node(0, 10), NONE);
        });
        edge(27, "BAD (also without a TREE)", () -> {
            for (int what = 0; what <= 10; what++) {
                int asked = what;
                refused(WeighCourt::new, x -> x.node(0, asked), BAD);
                refused(EdgesOfTreesTest::notOver, x -> x.node(0, asked), BAD);
                refused(EdgesOfTreesTest::withoutAny, x -> x.node(0, asked), BAD);
            }
            WeighCourt x = four();
            x.lies(0);
            due(x.node(0, 0), BAD);
        });
    }

    private static void nodeIs(WeighCourt x, int i, int... told) {
        for (int what = 0; what < told.length; what++) due(x.node(i, what), told[what]);
    }

    private static void nodes() {
        edge(27, "each with all that follows it ahead of the next one", () -> {
            WeighCourt x = four();
            nodeIs(x, 0, 1, NONE, 4, 0, NONE, NONE, 1, 2, 5, NONE, NONE);
            nodeIs(x, 1, 0, 1, 1, 1, NONE, NONE, NONE, NONE, NONE, NONE, NONE);
            nodeIs(x, 2, 1, NONE, 2, 1, NONE, NONE, 3, 4, NONE, NONE, NONE);
            nodeIs(x, 3, 0, 2, 1, 2, NONE, NONE, NONE, NONE, NONE, NONE, NONE);
            nodeIs(x, 4, 0, 3, 1, 2, NONE, NONE, NONE, NONE, NONE, NONE, NONE);
            nodeIs(x, 5, 0, 0, 1, 1, NONE, NONE, NONE, NONE, NONE, NONE, NONE);
        });
        edge(27, "those of its OUTCOMES, from the least one on", () -> {
            // Two lighter of 5 COINS on a SCALE, 0, 1 | 2, 3: both left, one left, one on each, one right, both right.
            WeighCourt x = searched(5, 2, 2, 2, 1);
            lie(x, 0, some(0, 1), some(2, 3));
            nodeIs(x, 0, 2, NONE, 10, 0, NONE, 1, 2, 5, 10, 13, NONE);
            int[] left = {1, 2, 4, 2, 1};
            int[] next = {1, 2, 5, 10, 13};
            for (int i = 0; i < 5; i++) {
                due(x.node(next[i], 2), left[i]);
                due(x.node(next[i], 3), 1);
            }
        });
        edge(27, "4 to 10 the NODE of the OUTCOME -3 to 3", () -> {
            // 0 | 1 and 2 | 3 are even: LEFT are two or three of 0, 1, 2, 3, 4, 5 with both of a pair or none of it.
            WeighCourt x = searched(6, 2, 3, 1, 1);
            int even = x.node(x.node(0, 7), 7);
            lie(x, even, some(0, 1, 4), some(2, 3, 5));
            String[] heavier = {"235", "23", "234", "45", "015", "01", "014"};
            for (int i = 0; i < 7; i++) {
                due(x.node(even, 4 + i), even + 1 + i);
                int t = x.node(even + 1 + i, 1);
                for (int c = 0; c < 6; c++) due(x.truth(t, c), heavier[i].indexOf('0' + c) < 0 ? 0 : 1);
            }
        });
        edge(27, "3 its depth (0 that of NODE 0)", () -> {
            due(four().node(0, 3), 0);
            due(four().node(2, 3), 1);
            due(four().node(4, 3), 2);
            WeighCourt x = searched(12, 1, 1, 3, 0);
            due(x.node(x.walk(0), 3), 3);
        });
    }

    private static void verdicts() {
        edge(27, "A NODE with one TRUTH LEFT is a VERDICT", () -> {
            WeighCourt x = searched(9, 0, 0, 1, 0);
            due(x.tree(), 1);
            nodeIs(x, 0, 0, 0, 1, 0, NONE, NONE, NONE, NONE, NONE, NONE, NONE);
        });
        edge(27, "0 how many COINS lie on each PAN (0: a VERDICT), 1 its TRUTH (NONE: no VERDICT)", () -> {
            WeighCourt x = searched(12, 1, 1, 3, 0);
            due(x.node(0, 0), 4);
            for (int i = 0; i < 37; i++) {
                boolean verdict = x.node(i, 2) == 1;
                due(x.node(i, 0) == 0 ? 1 : 0, verdict ? 1 : 0);
                due(x.node(i, 1) == NONE ? 0 : 1, verdict ? 1 : 0);
            }
        });
        edge(27, "OUTCOMES that leave no TRUTH have none", () -> {
            WeighCourt x = searched(2, 1, 1, 1, 0);
            nodeIs(x, 0, 1, NONE, 2, 0, NONE, NONE, 1, NONE, 2, NONE, NONE);
            WeighCourt y = searched(2, 1, 1, 1, 1);
            nodeIs(y, 0, 1, NONE, 2, 0, NONE, NONE, 1, NONE, 2, NONE, NONE);
        });
    }

    /** The COINS of a NODE's WEIGHING, by their numbers. */
    private static void lie(WeighCourt x, int i, int[] left, int[] right) {
        due(x.node(i, 0), left.length);
        for (int k = 0; k < left.length; k++) {
            due(x.nodeCoin(i, 0, k), left[k]);
            due(x.nodeCoin(i, 1, k), right[k]);
        }
        due(x.nodeCoin(i, 0, left.length), BAD);
        due(x.nodeCoin(i, 1, left.length), BAD);
    }

    private static void weighings() {
        edge(28, "Of a GROUP the least COINS lie left, the next ones right", () -> {
            lie(searched(9, 1, 1, 1, 0), 0, some(0, 1, 2), some(3, 4, 5));
            lie(searched(12, 1, 1, 3, 0), 0, some(0, 1, 2, 3), some(4, 5, 6, 7));
        });
        edge(28, "GROUPS of a CASE are COINS that are ALIKE in it, in the order of their least ones", () -> {
            // 1 and 3 are STRUCK, 0, 2 and 4 are LEFT: GROUPS 0, 2, 4 and 1, 3.
            WeighCourt x = court(5, 1, 1, 1, 0);
            load(x, 0, some(1), some(3));
            x.weigh(0, 0);
            x.search(0, 1000);
            lie(x, 0, some(0), some(2));
            // 0, 3 are STRUCK: GROUPS 0, 3 and 1, 2, 4; the first WEIGHINGS, 0 | 3, 0 | 1 and 1 | 0, do not do.
            WeighCourt y = court(5, 1, 1, 1, 0);
            load(y, 0, some(0), some(3));
            y.weigh(0, 0);
            y.search(0, 1000);
            lie(y, 0, some(1), some(2));
        });
        edge(28, "then by how many of the first GROUP lie on the left PAN, more first", () -> {
            // GROUPS 0, 1 (STRUCK) and 2, 3: 0 | 1 tells nothing, 0 | 2 comes ahead of 2 | 0 and 2 | 3.
            lie(four(), 2, some(0), some(2));
        });
        edge(28, "then by how many of it on the right PAN, more first; then by the second GROUP's, likewise, and so on", () -> {
            // 0 and 1 are STRUCK, one of 2 to 5 is heavier: no WEIGHING on a SCALE does alone. In order: 0|1, 0|2, 2|0,
            // 2|3; 01|23, 02|13, 02|34, 23|01, 23|04, 23|45; 012|345, 023|145, 234|015. Each with its first OUTCOME that
            // leaves more than one, and how many.
            WeighCourt x = court(6, 1, 1, 1, 1);
            load(x, 0, some(0), some(1));
            x.weigh(0, 0);
            x.search(0, 1000);
            int[][] first = {{0, 4}, {0, 3}, {0, 3}, {0, 2}, {-1, 2}, {0, 2}, {-1, 2}, {0, 2}, {1, 2}, {-1, 2}, {-1, 3}, {-1, 2},
                {1, 3}};
            due(x.prove(), 2 * first.length);
            for (int number = 0; number < first.length; number++) {
                due(x.row(2 * number, 0), number);
                due(x.row(2 * number, 1), first[number][0]);
                due(x.row(2 * number + 1, 0), -1);
                due(x.row(2 * number + 1, 1), first[number][1]);
            }
        });
    }

    private static void nodeCoin() {
        edge(28, "The k-th COIN (from 0 on, rising) that lies left (0), right (1) in a NODE's WEIGHING. BAD.", () -> {
            for (int i : some(LOW, -1, 6, HIGH)) refused(EdgesOfTreesTest::four, x -> x.nodeCoin(i, 0, 0), BAD);
            for (int side : some(LOW, -1, 2, HIGH)) refused(EdgesOfTreesTest::four, x -> x.nodeCoin(0, side, 0), BAD);
            for (int k : some(LOW, -1, 1, HIGH)) {
                refused(EdgesOfTreesTest::four, x -> x.nodeCoin(0, 0, k), BAD);
                refused(EdgesOfTreesTest::four, x -> x.nodeCoin(0, 1, k), BAD);
            }
            due(four().nodeCoin(0, 0, 0), 0);
            due(four().nodeCoin(0, 1, 0), 1);
            // A VERDICT has no WEIGHING.
            for (int i : some(1, 3, 4, 5)) due(four().nodeCoin(i, 0, 0), BAD);
            due(searched(1, 1, 1, 1, 0).nodeCoin(0, 0, 0), BAD);
        });
        edge(28, "(from 0 on, rising)", () -> {
            WeighCourt x = searched(12, 1, 1, 3, 0);
            for (int i = 0; i < 37; i++) {
                for (int side = 0; side < 2; side++) {
                    for (int k = 1; k < x.node(i, 0); k++) {
                        due(x.nodeCoin(i, side, k - 1) < x.nodeCoin(i, side, k) ? 1 : 0, 1);
                    }
                }
            }
        });
        edge(28, "there is none then, nor a TREE", () -> {
            refused(WeighCourt::new, x -> x.nodeCoin(0, 0, 0), BAD);
            refused(EdgesOfTreesTest::notOver, x -> x.nodeCoin(0, 0, 0), BAD);
            refused(EdgesOfTreesTest::withoutAny, x -> x.nodeCoin(0, 0, 0), BAD);
        });
    }

    private static void walk() {
        edge(29, "the NODE where it ends", () -> {
            int[] ends = {5, 1, 3, 4};
            for (int t = 0; t < 4; t++) due(four().walk(t), ends[t]);
            due(searched(1, 1, 1, 1, 0).walk(0), 0);
        });
        edge(29, "with what the BALANCE TELLS of a TRUTH that is LEFT (no LIES more)", () -> {
            WeighCourt x = court(2, 1, 1, 1, 5);
            x.lies(1);
            x.search(0, 1000);
            for (int t = 0; t < 2; t++) {
                due(x.node(x.walk(t), 1), t);
                // Two OUTCOMES without a LIE strike the other one, that would need two.
                due(x.node(x.walk(t), 3), 2);
            }
            // A QUEUE TELLS by the one whose TURN it is: from TURN 1 on PLAIN, BLUNT, PLAIN.
            WeighCourt y = court(4, 1, 1, 1, 4, 0);
            y.queue(0, 1, -1);
            load(y, 0, some(0), some(1));
            y.weigh(0, 0);
            y.search(2, 10000);
            due(y.least(), 3);
            for (int t = 0; t < 4; t++) due(y.node(y.walk(t), 1), t);
        });
    }

    private static void walkIsRefused() {
        edge(29, "BAD: no such TRUTH, or it is STRUCK", () -> {
            for (int t : some(LOW, -1, 8, HIGH)) refused(x -> x.walk(t), BAD);
            for (int t = 0; t < 4; t++) {
                int struck = t;
                refused(x -> x.walk(struck), BAD);
            }
            for (int t = 4; t < 8; t++) due(rich().node(rich().walk(t), 1), t);
        });
        edge(29, "STATE: there is no TREE", () -> {
            refused(WeighCourt::new, x -> x.walk(0), STATE);
            refused(EdgesOfTreesTest::notOver, x -> x.walk(0), STATE);
            refused(EdgesOfTreesTest::withoutAny, x -> x.walk(0), STATE);
        });
        edge(29, "Refusals are answers, the first of these that fits", () -> {
            refused(WeighCourt::new, x -> x.walk(1), BAD);
            refused(EdgesOfTreesTest::notOver, x -> x.walk(4), BAD);
            WeighCourt x = rich();
            x.search(PLAIN, 1);
            due(x.walk(0), BAD);
            due(x.walk(4), STATE);
        });
    }
}
