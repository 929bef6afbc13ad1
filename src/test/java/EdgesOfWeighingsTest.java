import java.util.function.Supplier;

/** Promises 20 to 22, and the document's part 3 A WEIGHING: one test for each sentence that names a boundary case. */
public final class EdgesOfWeighingsTest extends Edges {
    public static void main(String[] args) {
        asked();
        panMissing();
        loadedUnfairly();
        loadedFairly();
        full();
        turns();
        fits();
        fitsByLie();
        struck();
        used();
        parts();
        undo();
        undoGoesBack();
        done(20, 22);
    }

    /** weigh() and parts() are refused alike but for FULL. */
    private static void bothRefused(Supplier<WeighCourt> made, int b, int outcome, int want) {
        refused(made, x -> x.weigh(b, outcome), want);
        refused(made, x -> x.parts(b, outcome), want);
    }

    private static void bothFound(Supplier<WeighCourt> made, int b, int outcome, int want) {
        found(made, x -> x.weigh(b, outcome), want);
        found(made, x -> x.parts(b, outcome), want);
    }

    private static void asked() {
        edge(20, "A WEIGHING of an OUTCOME (-3 to 3)", () -> {
            for (int outcome : some(LOW, -4, 4, HIGH)) {
                bothRefused(Edges::rich, PLAIN, outcome, BAD);
                bothRefused(Edges::rich, TAKEN, outcome, BAD);
            }
            int[] left = {0, 0, 0, 4, 0, 0, 0};
            for (int outcome = -3; outcome <= 3; outcome++) due(rich().weigh(PLAIN, outcome), left[outcome + 3]);
        });
        edge(20, "a number that none came with is BAD", () -> {
            noneCameWith((x, b) -> x.weigh(b, 0));
            due(rich().weigh(LAST, 0), 4);
        });
        edge(20, "STATE: there are no COINS", () -> {
            Supplier<WeighCourt> without = () -> {
                WeighCourt x = new WeighCourt();
                x.balance(0);
                x.balance(0);
                x.take(1);
                return x;
            };
            bothRefused(without, 0, 0, STATE);
            bothRefused(without, 1, 0, STATE);
            bothRefused(without, 2, 0, BAD);
            WeighCourt x = without.get();
            x.coins(1, 0, 0, 1);
            due(x.weigh(1, 0), NO_BALANCE);
            due(x.weigh(0, 0), NO_PAN);
        });
        edge(20, "one that was TAKEN NO BALANCE", () -> wasTaken((x, b) -> x.weigh(b, 0)));
        edge(20, "NO BALANCE: also of a QUEUE the one whose TURN it is", () -> {
            bothFound(Edges::rich, GAPPED, 0, NO_BALANCE);
            WeighCourt x = rich();
            x.undo();
            due(x.weigh(GAPPED, 0), 4);
            due(x.weigh(GAPPED, 0), NO_BALANCE);
        });
    }

    private static WeighCourt withPans(int left, int right) {
        WeighCourt x = court(6, 1, 1, 3, 0);
        if (left >= 0) x.pan(0, 0, left);
        if (right >= 0) x.pan(0, 1, right);
        return x;
    }

    private static void panMissing() {
        edge(20, "NO PAN: left, right one of the one that weighs", () -> {
            bothFound(() -> withPans(-1, -1), 0, 0, NO_PAN);
            bothFound(() -> withPans(-1, 3), 0, 0, NO_PAN);
            bothFound(() -> withPans(3, -1), 0, 0, NO_PAN);
            bothRefused(() -> withPans(3, 3), 0, 0, STATE);
            // At TURN 1 the SCALE weighs, whose right PAN is missing.
            bothFound(Edges::rich, QUEUE, 0, NO_PAN);
            WeighCourt x = rich();
            x.undo();
            due(x.weigh(QUEUE, 0), 4);
        });
        edge(20, "NO PAN: left, right one of the one that weighs; then STATE", () -> {
            WeighCourt x = withPans(-1, 3);
            x.put(0, 1, 0, 0);
            x.put(0, 1, 1, 0);
            due(x.weigh(0, 0), NO_PAN);
            due(x.parts(0, 0), NO_PAN);
        });
    }

    private static WeighCourt with(int[] left, int[] right) {
        WeighCourt x = court(6, 1, 1, 3, 0);
        load(x, 0, left, right);
        return x;
    }

    private static void loadedUnfairly() {
        edge(20, "a COIN lies at two PLACES", () -> {
            bothRefused(() -> with(some(0), some(0)), 0, 0, STATE);
            bothRefused(() -> with(some(0, 0), some(1, 2)), 0, 0, STATE);
            bothRefused(() -> with(some(1, 2), some(3, 3)), 0, 0, STATE);
            bothRefused(() -> with(some(0, 0), some(1, 1)), 0, 0, STATE);
            bothRefused(() -> with(some(0, 1), some(2, 1)), 0, 0, STATE);
            due(with(some(0, 1), some(2, 3)).weigh(0, 0), 4);
        });
        edge(20, "not as many COINS lie left as right", () -> {
            bothRefused(() -> with(some(0, 1), some(2)), 0, 0, STATE);
            bothRefused(() -> with(some(0), some(2, 1)), 0, 0, STATE);
            bothRefused(() -> with(some(0), some()), 0, 0, STATE);
            bothRefused(() -> with(some(), some(5)), 0, 0, STATE);
            bothRefused(() -> with(some(0, 1), some(2, -1)), 0, 0, STATE);
            due(with(some(0), some(5)).weigh(0, 0), 8);
        });
        edge(20, "or none", () -> {
            bothRefused(() -> with(some(), some()), 0, 0, STATE);
            bothRefused(() -> with(some(-1), some(-1)), 0, 0, STATE);
            bothRefused(() -> with(some(-1, -1, -1), some()), 0, 0, STATE);
        });
    }

    private static void loadedFairly() {
        edge(20, "each is missing (at first), or has 0 to 20 PLACES, each with a COIN or none (at first)", () -> {
            // As many COINS, whatever PLACES there are: those without one count for nothing.
            due(with(some(-1, 3, -1), some(4)).weigh(0, 1), 2);
            due(with(some(0, 1, 2), some(5, 4, 3)).weigh(0, 0), 0);
            WeighCourt x = court(40, 1, 1, 1, 0);
            x.pan(0, 0, 20);
            x.pan(0, 1, 20);
            for (int i = 0; i < 20; i++) {
                x.put(0, 0, i, 2 * i);
                x.put(0, 1, i, 2 * i + 1);
            }
            due(x.parts(0, 0), 0);
            due(x.weigh(0, -1), 20);
            due(x.lied(39), 0);
            due(x.lied(38), NONE);
        });
    }

    private static WeighCourt weighed(int times) {
        WeighCourt x = with(some(0), some(1));
        for (int i = 0; i < times; i++) x.weigh(0, 0);
        return x;
    }

    private static void full() {
        edge(20, "then FULL: there were 30 since coins()", () -> {
            due(weighed(29).weigh(0, 0), 8);
            due(weighed(30).count(5), 30);
            refused(() -> weighed(30), x -> x.weigh(0, 0), FULL);
            WeighCourt x = weighed(30);
            x.coins(6, 1, 1, 3);
            load(x, 0, some(0), some(1));
            due(x.weigh(0, 0), 8);
        });
        edge(20, "(that were not undone)", () -> {
            WeighCourt x = weighed(30);
            x.undo();
            due(x.weigh(0, 0), 8);
            due(x.weigh(0, 0), FULL);
            due(x.wish(0, 4, 0), 31);
        });
        edge(20, "then STATE: a COIN lies at two PLACES, not as many COINS lie left as right, or none; then FULL", () -> {
            WeighCourt x = weighed(30);
            x.put(0, 1, 0, 0);
            due(x.weigh(0, 0), STATE);
            x.put(0, 1, 0, -1);
            due(x.weigh(0, 0), STATE);
            x.unpan(0, 0);
            due(x.weigh(0, 0), NO_PAN);
            due(x.weigh(0, 4), BAD);
            x.take(0);
            due(x.weigh(0, 0), NO_BALANCE);
        });
    }

    /** A QUEUE of so many, the BALANCES 0, 1, 2 of which all have PANS; it is BALANCE 3. */
    private static WeighCourt queueOf(int many) {
        WeighCourt x = court(8, 1, 1, 1, 0, 0, 0);
        for (int b = 0; b < 3; b++) load(x, b, some(2 * b), some(2 * b + 1));
        x.queue(0, 1, many == 3 ? 2 : -1);
        return x;
    }

    private static void usedAre(WeighCourt x, int... used) {
        for (int b = 0; b < used.length; b++) due(x.wish(b, 4, 0), used[b]);
    }

    private static void turns() {
        edge(20, "with k WEIGHINGS since coins() (that were not undone) number k modulo how many it has, from 0 on", () -> {
            for (int many = 2; many <= 3; many++) {
                WeighCourt x = queueOf(many);
                int[] used = new int[3];
                for (int k = 0; k < 30; k++) {
                    x.weigh(3, 0);
                    used[k % many]++;
                    usedAre(x, used);
                }
                due(x.wish(3, 4, 0), 30);
            }
        });
        edge(20, "k WEIGHINGS since coins()", () -> {
            WeighCourt x = queueOf(2);
            x.weigh(3, 0);
            x.coins(8, 1, 1, 1);
            for (int b = 0; b < 2; b++) load(x, b, some(0), some(1));
            x.weigh(3, 0);
            usedAre(x, 2, 0);
            // Those on other BALANCES count as well.
            x.weigh(1, 0);
            x.weigh(3, 0);
            usedAre(x, 3, 1);
        });
        edge(20, "(that were not undone) number k modulo", () -> {
            WeighCourt x = queueOf(3);
            x.weigh(3, 0);
            x.weigh(3, 0);
            x.undo();
            x.weigh(3, 0);
            usedAre(x, 1, 2, 0);
        });
    }

    private static void partsAre(WeighCourt x, int... left) {
        for (int outcome = -3; outcome <= 3; outcome++) due(x.parts(0, outcome), left[outcome + 3]);
    }

    private static WeighCourt threeFalse(int kind) {
        WeighCourt x = court(6, 3, 3, 1, kind);
        load(x, 0, some(0, 1, 2), some(3, 4, 5));
        return x;
    }

    private static void fits() {
        edge(20, "The difference of a TRUTH is what the COINS on the left PAN weigh more than those on the right one", () -> {
            partsAre(threeFalse(1), 1, 0, 9, 0, 9, 0, 1);
            // All three lighter, all on the right: the left PAN weighs 3 more.
            WeighCourt x = court(6, 3, 3, 2, 1);
            load(x, 0, some(0, 1, 2), some(3, 4, 5));
            due(x.weigh(0, 3), 1);
            due(x.lied(19), 0);
        });
        edge(20, "An OUTCOME (-3 .. 3) FITS a TRUTH if it is what the BALANCE TELLS of that", () -> {
            partsAre(threeFalse(0), 0, 0, 10, 0, 10, 0, 0);
            partsAre(threeFalse(2), 0, 0, 1, 18, 1, 0, 0);
            partsAre(threeFalse(3), 0, 0, 1, 18, 1, 0, 0);
            partsAre(threeFalse(4), 0, 0, 1, 18, 1, 0, 0);
            partsAre(threeFalse(5), 0, 0, 10, 0, 10, 0, 0);
        });
    }

    private static WeighCourt liars(int kind, int lies) {
        WeighCourt x = court(2, 1, 1, 1, kind);
        x.lies(lies);
        load(x, 0, some(0), some(1));
        return x;
    }

    private static void fitsByLie() {
        edge(20, "on a LYING one each other OUTCOME of -1, 0, 1 FITS, too, by a LIE", () -> {
            partsAre(liars(5, 1), 0, 0, 2, 2, 2, 0, 0);
            for (int kind = 0; kind < 5; kind++) {
                if (kind < 2) partsAre(liars(kind, 3), 0, 0, 1, 0, 1, 0, 0);
                else partsAre(liars(kind, 3), 0, 0, 0, 2, 0, 0, 0);
            }
        });
        edge(20, "if the TRUTH has fewer than LIES", () -> {
            partsAre(liars(5, 0), 0, 0, 1, 0, 1, 0, 0);
            for (int lies = 1; lies <= 3; lies++) {
                WeighCourt x = liars(5, lies);
                for (int i = 0; i < lies; i++) due(x.weigh(0, 1), 2);
                due(x.lied(1), lies);
                due(x.parts(0, 1), 1);
                due(x.parts(0, 0), 1);
                due(x.parts(0, -1), 2);
            }
        });
        edge(20, "those that it FITS by a LIE have one LIE more", () -> {
            WeighCourt x = liars(5, 3);
            x.weigh(0, 1);
            due(x.lied(0), 0);
            due(x.lied(1), 1);
            x.weigh(0, 0);
            due(x.lied(0), 1);
            due(x.lied(1), 2);
            x.weigh(0, -1);
            due(x.lied(0), 2);
            due(x.lied(1), 2);
        });
    }

    private static void struck() {
        edge(20, "all that are LEFT, and that its OUTCOME does not FIT, are STRUCK", () -> {
            WeighCourt x = with(some(0, 1), some(2, 3));
            due(x.weigh(0, 1), 4);
            int[] lied = {0, NONE, 0, NONE, NONE, 0, NONE, 0, NONE, NONE, NONE, NONE};
            for (int t = 0; t < 12; t++) due(x.lied(t), lied[t]);
            due(x.weigh(0, 0), 0);
            due(x.weigh(0, 1), 0);
            due(x.count(2), 0);
            due(x.count(5), 3);
        });
    }

    private static void used() {
        edge(20, "the BALANCE that weighed was USED once more (a QUEUE, too)", () -> {
            WeighCourt x = queueOf(2);
            x.weigh(3, 0);
            usedAre(x, 1, 0, 0, 1);
            x.weigh(1, 0);
            usedAre(x, 1, 1, 0, 1);
            x.weigh(1, 4);
            x.parts(3, 0);
            x.unpan(0, 0);
            x.weigh(3, 0);
            usedAre(x, 1, 1, 0, 1);
        });
    }

    private static void parts() {
        edge(21, "As weigh(), but FULL", () -> {
            due(weighed(30).parts(0, 0), 8);
            due(weighed(30).parts(0, 1), 0);
            WeighCourt x = queueOf(3);
            for (int i = 0; i < 30; i++) x.weigh(3, 0);
            due(x.parts(3, 0), 2);
        });
        edge(21, "How many TRUTHS would be LEFT; nothing changes", () -> {
            int[] left = {0, 0, 2, 2, 2, 0, 0};
            for (int outcome = -3; outcome <= 3; outcome++) {
                int of = outcome;
                due(unchanged(() -> liars(5, 1), x -> x.parts(0, of)), left[of + 3]);
                due(liars(5, 1).weigh(0, of), left[of + 3]);
                due(unchanged(Edges::rich, x -> x.parts(LAST, of)), of == 0 ? 4 : 0);
            }
        });
        edge(21, "a number that none came with is BAD", () -> {
            noneCameWith((x, b) -> x.parts(b, 0));
            due(rich().parts(LAST, 0), 4);
        });
        edge(21, "one that was TAKEN NO BALANCE", () -> wasTaken((x, b) -> x.parts(b, 0)));
    }

    private static void undo() {
        edge(22, "STATE: there was none since coins()", () -> {
            refused(WeighCourt::new, WeighCourt::undo, STATE);
            refused(() -> weighed(0), WeighCourt::undo, STATE);
            refused(() -> {
                WeighCourt x = weighed(2);
                x.coins(6, 1, 1, 3);
                return x;
            }, WeighCourt::undo, STATE);
            refused(() -> {
                WeighCourt x = weighed(1);
                x.undo();
                return x;
            }, WeighCourt::undo, STATE);
            due(weighed(1).undo(), 12);
        });
        edge(22, "(USED stays)", () -> {
            WeighCourt x = queueOf(2);
            x.weigh(3, 0);
            x.weigh(3, 0);
            x.undo();
            x.undo();
            usedAre(x, 1, 1, 0, 2);
        });
    }

    private static void undoGoesBack() {
        edge(22, "THE CASE is as it was ahead of the latest WEIGHING", () -> {
            WeighCourt x = liars(5, 3);
            int[] outcomes = {1, 0, -1, 0, 1, 1, 2};
            long[] cases = new long[outcomes.length];
            int[] left = new int[outcomes.length];
            for (int i = 0; i < outcomes.length; i++) {
                cases[i] = caseOf(x);
                left[i] = x.count(2);
                x.weigh(0, outcomes[i]);
            }
            due(x.count(2), 0);
            for (int i = outcomes.length - 1; i >= 0; i--) {
                due(x.undo(), left[i]);
                due(caseOf(x), cases[i]);
                due(x.count(5), i);
            }
        });
        edge(22, "how many TRUTHS are LEFT", () -> {
            WeighCourt x = weighed(30);
            for (int i = 0; i < 29; i++) due(x.undo(), 8);
            due(x.undo(), 12);
            due(x.undo(), STATE);
        });
    }

    private static long caseOf(WeighCourt x) {
        return 10000L * x.lied(0) + x.lied(1);
    }
}
