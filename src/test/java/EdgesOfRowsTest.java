import java.util.function.Supplier;

/** Promises 30 to 33, and the document's part 5 ROWS: one test for each sentence that names a boundary case. */
public final class EdgesOfRowsTest extends Edges {
    public static void main(String[] args) {
        prove();
        proveOnce();
        atMost();
        rows();
        row();
        spoil();
        check();
        checkCases();
        checkHowMany();
        done(30, 33);
    }

    private static WeighCourt searched(int lies, int n, int least, int most, int kinds, int... balances) {
        WeighCourt x = court(n, least, most, kinds, balances);
        x.lies(lies);
        x.search(0, 10000);
        return x;
    }

    private static WeighCourt proved(int lies, int n, int least, int most, int kinds, int... balances) {
        WeighCourt x = searched(lies, n, least, most, kinds, balances);
        x.prove();
        return x;
    }

    private static void rowsAre(WeighCourt x, int... numbers) {
        due(x.count(9), numbers.length / 2);
        for (int i = 0; i < numbers.length; i++) due(x.row(i / 2, i % 2), numbers[i]);
    }

    private static WeighCourt notOver() {
        WeighCourt x = court(2, 1, 1, 1, 0);
        x.search(0, 5);
        return x;
    }

    private static void prove() {
        edge(30, "STATE: there is no TREE", () -> {
            refused(WeighCourt::new, WeighCourt::prove, STATE);
            refused(EdgesOfRowsTest::notOver, WeighCourt::prove, STATE);
            refused(() -> searched(0, 1, 0, 1, 1, 0), WeighCourt::prove, STATE);
            WeighCourt x = notOver();
            x.goOn(1);
            due(x.prove(), 1);
        });
        edge(30, "LEAST is 0", () -> {
            refused(() -> searched(0, 1, 1, 1, 1, 0), WeighCourt::prove, STATE);
            refused(() -> searched(0, 9, 0, 0, 1, 0), WeighCourt::prove, STATE);
            due(searched(0, 2, 1, 1, 1, 0).prove(), 1);
        });
    }

    private static void proveOnce() {
        edge(30, "or ROWS were asked of this SEARCH already", () -> {
            refused(() -> proved(0, 2, 1, 1, 1, 0), WeighCourt::prove, STATE);
            refused(() -> proved(0, 4, 1, 1, 3, 0), WeighCourt::prove, STATE);
            // Asked and too many is asked, too.
            refused(() -> over(601), x -> x.prove() == FULL ? x.prove() : 0, STATE);
            WeighCourt x = proved(0, 4, 1, 1, 3, 0);
            x.spoil(0, 0, 7);
            due(x.prove(), STATE);
            x.search(0, 1000);
            due(x.count(9), 0);
            due(x.prove(), 4);
            due(x.row(0, 0), 0);
        });
    }

    /** A SEARCH that is over, and has just 600 or 601 ROWS: on a QUEUE of a LYING one, and a PLAIN one or a SCALE. */
    private static WeighCourt over(int rows) {
        WeighCourt x = rows == 600 ? court(7, 0, 1, 2, 5, 0) : court(6, 1, 1, 2, 5, 1);
        x.lies(1);
        x.queue(0, 1, -1);
        load(x, 0, rows == 600 ? some(5, 2) : some(5, 3), rows == 600 ? some(6, 4) : some(2, 0));
        x.weigh(0, rows == 600 ? 0 : 1);
        x.search(2, 10000);
        return x;
    }

    private static void atMost() {
        edge(30, "600 at most", () -> {
            WeighCourt x = over(600);
            due(x.least(), 3);
            due(x.prove(), 600);
            due(x.count(9), 600);
            due(x.row(599, 0), -1);
            due(x.row(600, 0), BAD);
            due(x.check(), 1);
        });
        edge(30, "FULL: more than 600 (there are none then)", () -> {
            due(over(601).least(), 3);
            due(over(601).prove(), FULL);
            WeighCourt x = over(601);
            x.prove();
            due(x.count(9), 0);
            due(x.row(0, 0), BAD);
            due(x.spoil(0, 0, 0), BAD);
            due(x.check(), STATE);
            due(x.least(), 3);
            due(x.tree() > 0 ? 1 : 0, 1);
        });
    }

    private static void rows() {
        edge(30, "if n is 0, or too many are LEFT (as in 4), a ROW: -1 and how many are LEFT", () -> {
            rowsAre(proved(0, 2, 1, 1, 1, 0), -1, 2);
            rowsAre(proved(0, 3, 1, 1, 1, 0), -1, 3);
            rowsAre(proved(0, 4, 1, 1, 1, 0), -1, 4);
            rowsAre(proved(0, 10, 1, 1, 1, 0), -1, 10);
            // 8 are not too many for two WEIGHINGS, 4 too many for one, 7 not too many for one on a SCALE.
            rowsAre(proved(0, 4, 1, 1, 3, 0), 0, 0, -1, 4, 1, -1, -1, 4);
            rowsAre(proved(0, 7, 1, 1, 1, 1), 0, 0, -1, 5, 1, -1, -1, 2, 2, -1, -1, 3);
            rowsAre(proved(0, 8, 1, 1, 1, 1), -1, 8);
        });
        edge(30, "its number, and the first OUTCOME with no", () -> {
            // Two heavier of 4 on a SCALE: 0 | 1 leaves 2 by -1, 0 and 1; 0, 1 | 2, 3 one by -2, 4 by 0.
            rowsAre(proved(0, 4, 2, 2, 1, 1), 0, -1, -1, 2, 1, 0, -1, 4);
        });
        edge(30, "behind it the ROWS of the CASE that this OUTCOME makes, k + 1, n - 1", () -> {
            // One LIE may be: by -1 no TRUTH is STRUCK, and 0 and 1 are not ALIKE any more.
            rowsAre(proved(1, 2, 0, 1, 1, 5), 0, -1, 0, 0, -1, 2, 1, -1, -1, 2);
        });
        edge(30, "of THE CASE, its TURN and n", () -> {
            // At TURN 1 the BLUNT one of PLAIN, BLUNT weighs, that leaves all 3.
            WeighCourt x = court(3, 1, 1, 1, 0, 4);
            x.queue(0, 1, -1);
            load(x, 1, some(0), some(1));
            x.weigh(1, 0);
            x.search(2, 1000);
            due(x.prove(), 2);
            rowsAre(x, 0, 0, -1, 3);
        });
    }

    private static WeighCourt four() {
        return proved(0, 4, 1, 1, 3, 0);
    }

    private static void row() {
        edge(31, "Of a ROW: 0 the WEIGHING's number (-1), 1 the OUTCOME, or how many are LEFT. BAD.", () -> {
            for (int i : some(LOW, -1, 4, 599, 600, HIGH)) {
                refused(EdgesOfRowsTest::four, x -> x.row(i, 0), BAD);
                refused(EdgesOfRowsTest::four, x -> x.row(i, 1), BAD);
            }
            for (int what : some(LOW, -1, 2, HIGH)) refused(EdgesOfRowsTest::four, x -> x.row(0, what), BAD);
            due(four().row(3, 0), -1);
            due(four().row(3, 1), 4);
            due(four().row(0, 0), 0);
            due(four().row(2, 1), -1);
        });
        edge(31, "there is none then, nor a TREE, nor ROWS", () -> {
            refused(WeighCourt::new, x -> x.row(0, 0), BAD);
            refused(() -> searched(0, 4, 1, 1, 3, 0), x -> x.row(0, 0), BAD);
            WeighCourt x = four();
            x.lies(0);
            due(x.row(0, 0), BAD);
        });
    }

    private static void spoil() {
        edge(32, "This number of a ROW becomes v (-200 to 20000): what it was", () -> {
            for (int v : some(LOW, -201, 20001, HIGH)) {
                refused(EdgesOfRowsTest::four, x -> x.spoil(0, 0, v), BAD);
                refused(EdgesOfRowsTest::four, x -> x.spoil(3, 1, v), BAD);
            }
            int[] was = {0, 0, -1, 4, 1, -1, -1, 4};
            for (int v : some(-200, -1, 0, 20000)) {
                for (int i = 0; i < 8; i++) {
                    WeighCourt x = four();
                    due(x.spoil(i / 2, i % 2, v), was[i]);
                    for (int j = 0; j < 8; j++) due(x.row(j / 2, j % 2), i == j ? v : was[j]);
                    due(x.spoil(i / 2, i % 2, was[i]), v);
                }
            }
        });
        edge(32, "This number of a ROW becomes v (-200 to 20000): what it was. BAD.", () -> {
            for (int i : some(LOW, -1, 4, 599, 600, HIGH)) refused(EdgesOfRowsTest::four, x -> x.spoil(i, 0, 0), BAD);
            for (int what : some(LOW, -1, 2, HIGH)) refused(EdgesOfRowsTest::four, x -> x.spoil(0, what, 0), BAD);
            refused(WeighCourt::new, x -> x.spoil(0, 0, 0), BAD);
            refused(() -> searched(0, 4, 1, 1, 3, 0), x -> x.spoil(0, 0, 0), BAD);
        });
    }

    /** Whether ROWS hold that are spoilt: of each its number, which of the two, and to what. */
    private static void holds(Supplier<WeighCourt> made, int want, int... spoilt) {
        WeighCourt x = made.get();
        due(x.check(), 1);
        for (int i = 0; i < spoilt.length; i += 3) x.spoil(spoilt[i], spoilt[i + 1], spoilt[i + 2]);
        due(x.check(), want);
    }

    private static WeighCourt seven() {
        return proved(0, 7, 1, 1, 1, 1);
    }

    private static void check() {
        edge(33, "STATE: there are none", () -> {
            refused(WeighCourt::new, WeighCourt::check, STATE);
            refused(() -> searched(0, 4, 1, 1, 3, 0), WeighCourt::check, STATE);
            refused(() -> searched(0, 1, 1, 1, 1, 0), WeighCourt::check, STATE);
            due(four().check(), 1);
            WeighCourt x = four();
            x.coins(4, 1, 1, 3);
            due(x.check(), STATE);
        });
        edge(33, "ROWS are CHECKED: 1 they hold, 0 they don't", () -> {
            due(unchanged(EdgesOfRowsTest::four, WeighCourt::check), 1);
            WeighCourt x = four();
            x.spoil(3, 1, 5);
            due(x.check(), 0);
            x.spoil(3, 1, 4);
            due(x.check(), 1);
            due(proved(0, 2, 1, 1, 1, 0).check(), 1);
        });
        edge(33, "with any OUTCOMES (from -MOST to MOST) as they tell", () -> {
            // 3 | 3 leaves 3 by -1 and by 1; 2 | 2 leaves 3 by 0.
            holds(EdgesOfRowsTest::seven, 1, 4, 1, 1);
            holds(EdgesOfRowsTest::seven, 1, 2, 1, 0, 3, 1, 3);
            holds(EdgesOfRowsTest::seven, 0, 2, 1, 0);
            for (int outcome : some(-200, -4, -3, -2, 2, 3, 4, 20000)) {
                holds(EdgesOfRowsTest::seven, 0, 4, 1, outcome);
                holds(EdgesOfRowsTest::seven, 0, 4, 1, outcome, 5, 1, 0);
            }
        });
    }

    private static void checkCases() {
        edge(33, "each CASE that they come to has 2 TRUTHS or more LEFT", () -> {
            // 1 | 1 leaves one by -1 or 1, none by 2; 2 | 2 two by -1.
            holds(EdgesOfRowsTest::seven, 0, 0, 1, -1, 1, 1, 1);
            holds(EdgesOfRowsTest::seven, 0, 0, 1, 2, 1, 1, 0);
            holds(EdgesOfRowsTest::seven, 1, 2, 1, 1, 3, 1, 2);
            // 3 | 3 leaves the one that is beside by 0.
            holds(EdgesOfRowsTest::seven, 0, 4, 1, 0, 5, 1, 1);
        });
        edge(33, "the ROWS are just those that must stand there", () -> {
            holds(EdgesOfRowsTest::four, 0, 0, 0, 1);
            holds(EdgesOfRowsTest::four, 0, 0, 0, -1);
            holds(EdgesOfRowsTest::four, 0, 2, 0, 0);
            holds(EdgesOfRowsTest::four, 0, 2, 0, 2);
            holds(EdgesOfRowsTest::four, 0, 1, 0, 0);
            holds(EdgesOfRowsTest::four, 0, 3, 0, -2);
            holds(EdgesOfRowsTest::four, 0, 1, 1, 3);
            holds(EdgesOfRowsTest::four, 0, 1, 1, 5);
            holds(EdgesOfRowsTest::four, 0, 3, 1, 3);
            holds(EdgesOfRowsTest::four, 0, 3, 1, 5);
        });
    }

    /** Two or fewer heavier of 3 COINS, on a LYING one that may lie once: 34 ROWS, and many others would hold as well. */
    private static WeighCourt thirtyFour() {
        return proved(1, 3, 1, 2, 1, 5);
    }

    /** Other ROWS, as far as there are ROWS for them. */
    private static void otherRows(int want, int... numbers) {
        WeighCourt x = thirtyFour();
        due(x.count(9), 34);
        for (int i = 0; i < numbers.length && i < 68; i++) x.spoil(i / 2, i % 2, numbers[i]);
        due(x.check(), want);
    }

    private static void checkHowMany() {
        edge(33, "CHECKED are ROWS one after the other", () -> otherRows(1,
            0, 0, 0, 0, 0, 0, -1, 2, 1, 0, -1, 2, 2, -1, -1, 2, 1, 1, 0, 1, -1, 2, 1, -1, -1, 2, 2, -1, -1, 2, 3, 1, -1, 2,
            4, 0, -1, 2, 5, 0, -1, 2, 2, 1, 0, 0, -1, 2, 1, 1, -1, 2, 2, 0, -1, 2, 3, 1, -1, 2, 4, 0, -1, 2, 5, 0, -1, 2));
        edge(33, "and none is too many", () -> {
            // These 33 would hold: the 34th is too many.
            otherRows(0,
                0, -1, 0, 0, -1, 4, 1, -1, 0, -1, -1, 2, 1, 0, -1, 2, 2, 1, -1, 2, 2, 0, -1, 4, 3, 1, 0, -1, -1, 2, 1, 1, -1, 2,
                2, -1, -1, 2, 4, 1, 0, -1, -1, 2, 1, 0, -1, 2, 2, 1, -1, 2, 5, -1, 0, 1, -1, 2, 1, -1, -1, 2, 2, 1, -1, 2);
            // By -1 first 5 ROWS, as 0 and 1 are not ALIKE then; by 0 they stay ALIKE: 3, and the last two are too many.
            holds(() -> proved(1, 2, 0, 1, 1, 5), 0, 0, 1, 0, 1, 1, -1);
        });
        edge(33, "just those that must stand there, and none is too many", () -> {
            // These 35 would hold: one is missing.
            otherRows(0,
                0, -1, 0, 0, -1, 4, 1, 0, 0, 1, -1, 2, 1, -1, -1, 2, 2, 1, -1, 2, 3, 0, -1, 2, 4, -1, -1, 2, 5, 1, -1, 2,
                2, 0, -1, 4, 3, -1, -1, 4, 4, -1, -1, 4, 5, 0, 0, -1, -1, 2, 1, 0, -1, 2, 2, 1, -1, 2, 3, 0, -1, 2, 4, 1, -1, 2,
                5, 0, -1, 2);
            // The last of 18 by 0, not -1, comes to a CASE with WEIGHINGS more, and no ROWS are there for them.
            holds(() -> proved(2, 2, 1, 2, 1, 5), 0, 12, 1, 0, 14, 1, 0, 16, 1, 0);
        });
        edge(33, "if each CASE that they come to has 2 TRUTHS or more LEFT", () -> {
            // Row 22, WEIGHING 1 by 1, leaves one TRUTH, and no ROW stands for it; all others are in their places.
            otherRows(0,
                0, 1, 0, -1, -1, 4, 1, -1, -1, 4, 2, 0, -1, 4, 3, 0, 0, 1, -1, 2, 1, 0, -1, 2, 2, 1, -1, 2, 3, -1, -1, 2,
                4, 0, -1, 2, 5, 0, -1, 2, 4, 0, 0, -1, -1, 2, 1, 1, 2, 1, -1, 2, 3, 1, -1, 2, 4, -1, -1, 2, 5, 0, -1, 2,
                5, -1, -1, 4);
        });
    }
}
