import java.util.function.Consumer;
import java.util.function.Supplier;

/** Promises 23 to 25, and of the document's part 4 how a SEARCH goes: one test for each sentence that names a boundary case. */
public final class EdgesOfSearchTest extends Edges {
    public static void main(String[] args) {
        steps();
        notOfThese();
        noBalance();
        full();
        orderOfRefusals();
        oneOrNone();
        tooMany();
        everyOutcome();
        everyWeighing();
        untilSix();
        stops();
        goOn();
        least();
        ends();
        endsNot();
        done(23, 25);
    }

    /** STEPS of a whole SEARCH, by one call. */
    private static void takes(WeighCourt x, int b, int steps, int least) {
        due(x.search(b, 10000), 1);
        due(x.count(7), steps);
        due(x.least(), least);
    }

    private static void steps() {
        edge(23, "so many STEPS (1 to 10000)", () -> {
            for (int steps : some(LOW, -1, 0, 10001, HIGH)) {
                refused(x -> x.search(PLAIN, steps), BAD);
                refused(x -> x.search(TAKEN, steps), BAD);
            }
            due(rich().search(PLAIN, 1), 0);
            due(rich().search(PLAIN, 10000), 1);
        });
        edge(23, "a number that none came with is BAD", () -> {
            noneCameWith((x, b) -> x.search(b, 1));
            due(rich().search(LAST, 1), 0);
        });
        edge(23, "1 it is over, 0 so many STEPS (1 to 10000) were done", () -> {
            // CAN of n = 0; CAN of n = 1, its one WEIGHING, three OUTCOMES: 6 STEPS.
            int[] answers = {0, 0, 0, 0, 0, 1, 1};
            for (int steps = 1; steps <= 7; steps++) {
                WeighCourt x = court(2, 1, 1, 1, 0);
                due(x.search(0, steps), answers[steps - 1]);
                due(x.count(7), Math.min(6, steps));
                due(x.count(8), steps);
                due(x.least(), steps < 6 ? STATE : 1);
            }
        });
    }

    /** Of 73 TRUTHS one of two FALSE COINS on one PAN (4), or of one heavier, one lighter on either (8), tells more than 1. */
    private static WeighCourt with61() {
        WeighCourt x = court(6, 0, 2, 3, 2);
        load(x, 0, some(0, 1), some(2, 3));
        x.weigh(0, 0);
        return x;
    }

    private static WeighCourt with0() {
        WeighCourt x = court(6, 1, 1, 3, 0);
        load(x, 0, some(0, 1), some(2, 3));
        x.weigh(0, 3);
        return x;
    }

    private static void notOfThese() {
        edge(23, "STATE: there are no COINS", () -> refused(() -> {
            WeighCourt x = new WeighCourt();
            x.balance(0);
            return x;
        }, x -> x.search(0, 1), STATE));
        edge(23, "or more than 12", () -> {
            due(court(12, 1, 1, 1, 0).search(0, 1), 0);
            refused(() -> court(13, 1, 1, 1, 0), x -> x.search(0, 1), STATE);
            refused(() -> court(40, 0, 0, 1, 0), x -> x.search(0, 1), STATE);
            takes(court(1, 0, 0, 1, 0), 0, 1, 0);
        });
        edge(23, "no TRUTHS LEFT", () -> {
            due(with0().count(2), 0);
            refused(EdgesOfSearchTest::with0, x -> x.search(0, 1), STATE);
            WeighCourt x = with0();
            x.undo();
            due(x.search(0, 1), 0);
        });
        edge(23, "or more than 60", () -> {
            due(court(6, 2, 2, 3, 0).count(2), 60);
            due(court(6, 2, 2, 3, 0).search(0, 1), 0);
            due(with61().count(2), 61);
            refused(EdgesOfSearchTest::with61, x -> x.search(0, 1), STATE);
            // More TRUTHS than 60, but not LEFT.
            WeighCourt x = with61();
            x.undo();
            due(x.weigh(0, 1), 6);
            due(x.search(0, 1), 0);
        });
    }

    private static void noBalance() {
        edge(23, "one that was TAKEN NO BALANCE", () -> wasTaken((x, b) -> x.search(b, 1)));
        edge(23, "NO BALANCE: also one of a QUEUE's", () -> {
            found(x -> x.search(GAPPED, 1), NO_BALANCE);
            due(rich().search(QUEUE, 1), 0);
            for (int taken = 0; taken < 3; taken++) {
                WeighCourt x = court(1, 0, 0, 1, 0, 0, 0);
                x.queue(0, 1, 2);
                x.take(taken);
                due(x.search(3, 1), NO_BALANCE);
                due(x.count(8), 0);
            }
        });
    }

    /** So many STEPS are told; its SEARCH is over after 6. */
    private static WeighCourt told(int steps) {
        WeighCourt x = court(2, 1, 1, 1, 0, 0);
        x.take(1);
        for (int rest = steps; rest > 0; rest -= 10000) x.search(0, Math.min(rest, 10000));
        return x;
    }

    private static void full() {
        edge(23, "FULL: it would be more than 30000 STEPS that were told in all search(), goOn()", () -> {
            due(told(20000).search(0, 10000), 1);
            due(told(29999).search(0, 1), 0);
            refused(() -> told(29999), x -> x.search(0, 2), FULL);
            refused(() -> told(20001), x -> x.search(0, 10000), FULL);
            refused(() -> told(30000), x -> x.search(0, 1), FULL);
            WeighCourt x = told(30000);
            x.coins(2, 1, 1, 1);
            due(x.search(0, 1), FULL);
            due(x.count(8), 30000);
        });
        edge(24, "FULL likewise", () -> {
            Supplier<WeighCourt> begun = () -> {
                WeighCourt x = told(20000);
                x.search(0, 1);
                return x;
            };
            refused(begun, x -> x.goOn(10000), FULL);
            WeighCourt x = begun.get();
            due(x.goOn(9999), 1);
            due(x.count(8), 30000);
            WeighCourt y = told(29998);
            y.search(0, 1);
            due(y.goOn(2), FULL);
            due(y.goOn(1), 0);
            due(y.goOn(1), FULL);
        });
    }

    private static void orderOfRefusals() {
        edge(23, "Refusals are answers, the first of these that fits", () -> {
            refused(() -> told(30000), x -> x.search(0, 10001), BAD);
            refused(() -> told(30000), x -> x.search(2, 1), BAD);
            refused(() -> told(30000), x -> x.search(1, 1), FULL);
            Supplier<WeighCourt> tooManyCoins = () -> {
                WeighCourt x = told(30000);
                x.coins(13, 1, 1, 1);
                return x;
            };
            refused(tooManyCoins, x -> x.search(0, 1), STATE);
            refused(() -> {
                WeighCourt x = told(30000);
                x.coins(12, 2, 2, 1);
                return x;
            }, x -> x.search(0, 1), STATE);
            refused(() -> {
                WeighCourt x = told(30000);
                load(x, 0, some(0), some(1));
                x.weigh(0, 3);
                return x;
            }, x -> x.search(0, 1), STATE);
            refused(tooManyCoins, x -> x.search(1, 1), STATE);
            refused(tooManyCoins, x -> x.search(1, 0), BAD);
        });
        edge(24, "Refusals are answers, the first of these that fits", () -> {
            refused(() -> told(30000), x -> x.goOn(1), STATE);
            refused(() -> told(30000), x -> x.goOn(0), BAD);
            refused(() -> {
                WeighCourt x = told(29999);
                x.search(0, 1);
                return x;
            }, x -> x.goOn(10001), BAD);
        });
    }

    private static void oneOrNone() {
        edge(23, "If one TRUTH is LEFT, or none, yes", () -> {
            takes(court(5, 0, 0, 1, 0), 0, 1, 0);
            // Of two COINS one of which is heavier the OUTCOME 0 leaves none.
            takes(court(2, 1, 1, 1, 0), 0, 6, 1);
            takes(court(3, 1, 1, 1, 0), 0, 6, 1);
        });
        edge(23, "Else, if n is 0", () -> {
            WeighCourt x = court(2, 1, 1, 1, 0);
            due(x.search(0, 1), 0);
            due(x.goOn(1), 0);
            due(x.count(7), 2);
        });
    }

    private static void tooMany() {
        edge(23, "or more are LEFT than 2 MOST + 1 to the power of n", () -> {
            // n = 1 is looked at with 3, not with 4 LEFT: 1 STEP for n = 0, 1 for n = 1, then 12.
            takes(court(3, 1, 1, 1, 0), 0, 6, 1);
            takes(court(4, 1, 1, 1, 0), 0, 14, 2);
            due(rowsOf(court(9, 1, 1, 1, 0), 0), 1);
            due(court(9, 1, 1, 1, 0).search(0, 2), 0);
            // 7 = 2 * 3 + 1 LEFT are not too many for one WEIGHING on a SCALE: three WEIGHINGS are looked at; 8 are.
            due(rowsOf(court(7, 1, 1, 1, 1), 0), 6);
            due(rowsOf(court(8, 1, 1, 1, 1), 0), 1);
        });
        edge(23, "(MOST: the BALANCE's; of a QUEUE its own)", () -> {
            // The PLAIN one weighs first, but 4 are not more than 7.
            WeighCourt x = court(4, 1, 1, 1, 0, 1);
            x.queue(0, 1, -1);
            due(rowsOf(x, 2), 4);
            due(rowsOf(court(4, 1, 1, 1, 0), 0), 1);
            WeighCourt y = court(8, 1, 1, 1, 0, 1);
            y.queue(0, 1, -1);
            due(rowsOf(y, 2), 1);
        });
    }

    private static int rowsOf(WeighCourt x, int b) {
        x.search(b, 10000);
        return x.prove();
    }

    private static void everyOutcome() {
        edge(23, "of its OUTCOMES from -MOST to MOST (of the one that weighs at TURN k) one after the other", () -> {
            // CAN of n = 0; CAN of n = 1, the one WEIGHING, and 3 OUTCOMES, or 7 on a SCALE.
            takes(court(2, 1, 1, 1, 0), 0, 6, 1);
            takes(court(2, 1, 1, 1, 1), 0, 10, 1);
            takes(court(2, 1, 1, 1, 5), 0, 6, 1);
            WeighCourt x = court(2, 1, 1, 1, 0, 1, 4);
            x.queue(0, 1, -1);
            takes(x, 3, 6, 1);
            load(x, 2, some(0), some(1));
            x.weigh(2, 0);
            takes(x, 3, 10, 1);
        });
        edge(23, "of the WEIGHINGS since coins() as TURN", () -> {
            // One FALSE COIN leaves a BLUNT one even: only the PLAIN one of this QUEUE, at TURN 2, 5, .. tells.
            WeighCourt x = court(3, 1, 1, 1, 4, 0);
            x.queue(0, 0, 1);
            load(x, 0, some(0), some(1));
            int[] least = {3, 2, 1, 3, 2, 1};
            for (int turn = 0; turn < 6; turn++) {
                due(x.search(2, 1000), 1);
                due(x.least(), least[turn]);
                x.weigh(0, 0);
            }
        });
        edge(23, "the first no ends this WEIGHING", () -> {
            // Two heavier of 3 COINS, on a BLUNT one, n = 1: one WEIGHING, whose OUTCOME -1 leaves none, 0 leaves all.
            WeighCourt x = court(3, 2, 2, 1, 4);
            due(x.search(0, 4), 0);
            due(x.goOn(1), 0);
            // So the 6th STEP is CAN of n = 2, not the OUTCOME 1.
            x.goOn(10000);
            due(x.least(), NONE);
            due(x.count(7), 1 + 4 + 7 + 10 + 13 + 16 + 19);
        });
    }

    private static void everyWeighing() {
        edge(23, "If there are no more WEIGHINGS: no", () -> {
            // One COIN can't be weighed: a STEP for each n.
            takes(court(1, 0, 1, 1, 0), 0, 7, NONE);
            takes(court(1, 0, 1, 3, 1), 0, 7, NONE);
        });
        edge(23, "by how many COINS lie on each PAN, 1, 2, .. (as long as there are COINS enough)", () -> {
            // Not too many for one WEIGHING on a SCALE, but none does: for each a ROW, and one of what is LEFT.
            for (int n = 4; n <= 7; n++) {
                WeighCourt x = court(n, 1, 1, 1, 1);
                x.search(0, 10000);
                due(x.prove(), n / 2 * 2);
                for (int number = 0; number < n / 2; number++) due(x.row(2 * number, 0), number);
            }
        });
        edge(23, "(The BALANCES' own PANS count for nothing in a SEARCH.)", () -> {
            takes(court(4, 1, 1, 1, 0), 0, 14, 2);
            WeighCourt x = court(4, 1, 1, 1, 0);
            load(x, 0, some(3, 3, 3), some());
            takes(x, 0, 14, 2);
            due(x.nodeCoin(0, 0, 0), 0);
            due(x.at(0, 0, 2), 3);
        });
    }

    private static WeighCourt liars(int lies) {
        WeighCourt x = court(2, 1, 1, 1, 5, 4);
        x.queue(1, 0, -1);
        x.lies(lies);
        return x;
    }

    private static void untilSix() {
        edge(23, "of n = 0, 1, .. 6; the first n with yes is LEAST; without any there is none", () -> {
            // Each LIE that may be costs two WEIGHINGS more: 1, 3, 5, 7.
            int[] least = {1, 3, 5, NONE};
            for (int lies = 0; lies <= 3; lies++) {
                WeighCourt x = liars(lies);
                due(x.search(0, 10000), 1);
                due(x.least(), least[lies]);
            }
            // On a QUEUE with a BLUNT one ahead, twice as many: 2, 6, 10.
            int[] twice = {2, 6, NONE};
            for (int lies = 0; lies <= 2; lies++) {
                WeighCourt x = liars(lies);
                due(x.search(2, 10000), 1);
                due(x.least(), twice[lies]);
            }
            due(court(5, 0, 0, 1, 0).search(0, 1), 1);
        });
    }

    private static void stops() {
        edge(23, "It stops when as many STEPS as told are done, ahead of the next one, and goes on from there", () -> {
            for (int each : some(1, 2, 3, 5, 7, 13)) {
                WeighCourt x = court(4, 1, 1, 1, 0);
                int answer = x.search(0, each);
                for (int done = each; done < 14; done += each) {
                    due(answer, 0);
                    due(x.count(7), done);
                    due(x.least(), STATE);
                    answer = x.goOn(each);
                }
                due(answer, 1);
                due(x.count(7), 14);
                due(x.least(), 2);
                due(x.tree(), 6);
                due(x.prove(), 1);
            }
        });
        edge(24, "It is over with LEAST, or without any", () -> {
            WeighCourt x = court(2, 1, 1, 1, 0);
            x.search(0, 5);
            due(x.goOn(1), 1);
            due(x.least(), 1);
            WeighCourt y = court(1, 0, 1, 1, 0);
            y.search(0, 6);
            due(y.least(), STATE);
            due(y.goOn(1), 1);
            due(y.least(), NONE);
        });
    }

    private static void goOn() {
        edge(24, "It goes on by so many STEPS more (1 to 10000): as search()", () -> {
            Supplier<WeighCourt> begun = () -> {
                WeighCourt x = court(4, 1, 1, 1, 0);
                x.search(0, 1);
                return x;
            };
            for (int steps : some(LOW, -1, 0, 10001, HIGH)) refused(begun, x -> x.goOn(steps), BAD);
            due(begun.get().goOn(1), 0);
            due(begun.get().goOn(12), 0);
            due(begun.get().goOn(13), 1);
            due(begun.get().goOn(10000), 1);
        });
        edge(24, "STATE: there is no SEARCH", () -> {
            refused(WeighCourt::new, x -> x.goOn(1), STATE);
            refused(() -> court(4, 1, 1, 1, 0), x -> x.goOn(1), STATE);
            refused(() -> {
                WeighCourt x = court(4, 1, 1, 1, 0);
                x.search(0, 1);
                x.lies(0);
                return x;
            }, x -> x.goOn(1), STATE);
        });
        edge(24, "or it is over", () -> {
            refused(x -> x.goOn(1), STATE);
            refused(() -> {
                WeighCourt x = court(1, 0, 1, 1, 0);
                x.search(0, 7);
                return x;
            }, x -> x.goOn(1), STATE);
        });
    }

    private static void least() {
        edge(25, "LEAST; NONE: there is none", () -> {
            WeighCourt x = court(1, 0, 1, 1, 0);
            x.search(0, 7);
            due(x.least(), NONE);
            WeighCourt y = court(1, 1, 1, 1, 0);
            y.search(0, 1);
            due(y.least(), 0);
        });
        edge(25, "STATE: no SEARCH is over", () -> {
            due(new WeighCourt().least(), STATE);
            due(court(2, 1, 1, 1, 0).least(), STATE);
            WeighCourt x = court(2, 1, 1, 1, 0);
            x.search(0, 5);
            due(x.least(), STATE);
            x.goOn(1);
            due(x.least(), 1);
        });
        edge(25, "in how many WEIGHINGS on a BALANCE there is just one TRUTH LEFT, or none, whatever OUTCOMES come", () -> {
            int[][] heavier = {{1, 0}, {2, 1}, {3, 1}, {4, 2}, {9, 2}, {10, 3}, {12, 3}};
            for (int[] h : heavier) {
                WeighCourt x = court(h[0], 1, 1, 1, 0);
                due(x.search(0, 10000), 1);
                due(x.least(), h[1]);
            }
        });
    }

    private static void endedBy(Consumer<WeighCourt> call) {
        WeighCourt x = rich();
        due(x.least(), 2);
        call.accept(x);
        due(x.least(), STATE);
        due(x.tree(), STATE);
        due(x.node(0, 0), BAD);
        due(x.count(7), 0);
        due(x.count(9), 0);
        due(x.row(0, 0), BAD);
        due(x.check(), STATE);
        due(x.prove(), STATE);
        due(x.goOn(1), STATE);
    }

    private static void ends() {
        String sentence = "end a SEARCH (if they are not refused, nor found): there is none then, nor a TREE, nor ROWS";
        edge(2, "coins(): " + sentence, () -> endedBy(x -> due(x.coins(4, 1, 1, 3), 8)));
        edge(3, "lies(): " + sentence, () -> endedBy(x -> {
            x.undo();
            x.search(PLAIN, 1000);
            due(x.lies(1), 1);
        }));
        edge(20, "weigh(): " + sentence, () -> endedBy(x -> due(x.weigh(LAST, 0), 4)));
        edge(22, "undo(): " + sentence, () -> endedBy(x -> due(x.undo(), 8)));
        edge(9, "take(): " + sentence, () -> endedBy(x -> due(x.take(LIAR), 5)));
        edge(23, "a search() that begins another one: " + sentence, () -> {
            WeighCourt x = rich();
            due(x.search(LAST, 1), 0);
            due(x.least(), STATE);
            due(x.tree(), STATE);
            due(x.count(7), 1);
            due(x.count(9), 0);
            due(x.row(0, 0), BAD);
            due(x.check(), STATE);
            due(x.goOn(1), 0);
            due(x.count(7), 2);
            // Wherever the one ahead of it stopped, it begins anew.
            for (int steps = 1; steps <= 14; steps++) {
                WeighCourt y = court(4, 1, 1, 1, 0);
                y.search(0, steps);
                takes(y, 0, 14, 2);
                due(y.tree(), 6);
                due(y.prove(), 1);
                due(y.row(0, 1), 4);
            }
        });
    }

    private static void endsNot() {
        edge(23, "(if they are not refused, nor found)", () -> {
            refused(x -> x.coins(41, 0, 1, 1), BAD);
            refused(x -> x.coins(40, 0, 3, 1), FULL);
            refused(x -> x.lies(4), BAD);
            refused(x -> x.lies(1), STATE);
            refused(x -> x.weigh(PLAIN, 4), BAD);
            found(x -> x.weigh(SCALE, 0), NO_PAN);
            found(x -> x.take(TAKEN), NO_BALANCE);
            refused(x -> x.search(PLAIN, 0), BAD);
            found(x -> x.search(TAKEN, 1), NO_BALANCE);
            refused(() -> told(30000), x -> x.search(0, 1), FULL);
            refused(() -> told(6), WeighCourt::undo, STATE);
        });
        edge(23, "coins(), lies(), weigh(), undo(), take(), and a search() that begins another one", () -> {
            // No other call ends one.
            WeighCourt x = rich();
            x.balance(0);
            x.queue(PLAIN, LAST, -1);
            x.pan(PLAIN, 0, 2);
            x.put(PLAIN, 0, 0, 3);
            x.copy(PLAIN, 0, 0, PLAIN, 0, 1);
            x.unpan(PLAIN, 0);
            x.parts(LAST, 0);
            x.wish(PLAIN, 1, 0);
            x.fix(0, 1, 2);
            x.judge(PLAIN, 1);
            x.digest();
            due(x.least(), 2);
            due(x.tree() > 0 ? 1 : 0, 1);
            due(x.count(9), 1);
            due(x.check(), 1);
        });
    }
}
