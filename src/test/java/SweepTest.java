import java.util.ArrayList;
import java.util.List;
import java.util.Map;
import java.util.Random;

/** Every small CHARGE on every KIND: the whole SEARCH, TREE and ROWS must be as PlainCourt has them. */
public final class SweepTest {
    private static final int MOST_COINS = 5;
    private static final Random RANDOM = new Random(5);
    private static int wrong = 0;
    private static int forgedAndHold = 0;
    private static String where = "";

    private static void due(String what, long got, long want) {
        if (got == want) return;
        wrong++;
        if (wrong < 20) System.out.println(where + ": " + what + " answered " + got + ", due is " + want);
    }

    public static void main(String[] args) {
        int mostCoins = args.length > 0 ? Integer.parseInt(args[0]) : MOST_COINS;
        for (int n = 1; n <= mostCoins; n++) {
            for (int most = 0; most <= 3 && most <= n; most++) {
                for (int least = 0; least <= most; least++) {
                    for (int kinds = 1; kinds <= 3; kinds++) everyBalance(n, least, most, kinds);
                }
            }
        }
        if (forgedAndHold == 0) due("forged rows that hold", 0, 1);
        System.out.println(wrong == 0 ? "all searches are alike" : wrong + " answers are not as due");
        if (wrong != 0) System.exit(1);
    }

    private static void everyBalance(int n, int least, int most, int kinds) {
        for (int kind = 0; kind < 9; kind++) {
            for (int lies = 0; lies <= (kind == 5 || kind == 8 ? 2 : 0); lies++) {
                where = "coins(" + n + ", " + least + ", " + most + ", " + kinds + ") kind " + kind + " lies " + lies;
                WeighCourt court = new WeighCourt();
                PlainCourt plain = new PlainCourt();
                due("coins", court.coins(n, least, most, kinds), plain.coins(n, least, most, kinds));
                due("lies", court.lies(lies), plain.lies(lies));
                for (int b = 0; b < 6; b++) due("balance", court.balance(b), plain.balance(b));
                due("queue 6", court.queue(0, 1, -1), plain.queue(0, 1, -1));
                due("queue 7", court.queue(4, 0, 2), plain.queue(4, 0, 2));
                due("queue 8", court.queue(5, 1, 5), plain.queue(5, 1, 5));
                oneSearch(court, plain, kind);
            }
        }
    }

    private static void oneSearch(WeighCourt court, PlainCourt plain, int b) {
        due("search", court.search(b, 10000), plain.search(b, 10000));
        due("steps", court.count(7), plain.count(7));
        due("least", court.least(), plain.least());
        int nodes = plain.tree();
        due("tree", court.tree(), nodes);
        for (int i = 0; i <= nodes; i++) {
            for (int what = 0; what <= 10; what++) due("node", court.node(i, what), plain.node(i, what));
            for (int k = 0; k < 3; k++) {
                due("left coin", court.nodeCoin(i, 0, k), plain.nodeCoin(i, 0, k));
                due("right coin", court.nodeCoin(i, 1, k), plain.nodeCoin(i, 1, k));
            }
        }
        for (int t = 0; t < plain.truths.size(); t++) due("walk", court.walk(t), plain.walk(t));
        due("prove", court.prove(), plain.prove());
        for (int i = 0; i <= plain.rows(); i++) {
            due("row", court.row(i, 0), plain.row(i, 0));
            due("row", court.row(i, 1), plain.row(i, 1));
        }
        due("check", court.check(), plain.check());
        for (int i = 0; i < plain.rows(); i += 1 + plain.rows() / 10) {
            for (int v = -3; v <= 3; v++) {
                int was = plain.spoil(i, 1, v);
                due("spoil", court.spoil(i, 1, v), was);
                due("check spoilt", court.check(), plain.check());
                due("mend", court.spoil(i, 1, was), plain.spoil(i, 1, was));
            }
        }
        for (int i = 0; i < 12 && plain.rows() > 1; i++) forgedRows(court, plain, i % 3 == 0 ? 1 : 0);
    }

    /** All ROWS anew, by OUTCOMES of chance: some hold as well, some end too early, some too late. */
    private static void forgedRows(WeighCourt court, PlainCourt plain, int careless) {
        List<int[]> forged = new ArrayList<>();
        forge(plain.hunt, plain.hunt.start, plain.hunt.turn, plain.least() - 1, careless, forged);
        for (int i = 0; i < plain.rows() && i < forged.size(); i++) {
            for (int what = 0; what < 2; what++) {
                int v = forged.get(i)[what];
                due("forge", court.spoil(i, what, v), plain.spoil(i, what, v));
            }
        }
        int holds = plain.check();
        due("check forged", court.check(), holds);
        if (holds == 1) forgedAndHold++;
    }

    private static void forge(PlainCourt.Hunt hunt, Map<Integer, Integer> aCase, int k, int n, int careless, List<int[]> rows) {
        if (rows.size() > 700 || aCase.size() < 2) return;
        if (hunt.hopeless(aCase, n)) {
            rows.add(new int[] {-1, aCase.size()});
            return;
        }
        int number = 0;
        int reach = hunt.on.atTurn(k).mostQuietly();
        for (PlainCourt.Weighing weighing : hunt.weighings(aCase)) {
            int outcome = 0;
            for (int tries = 0; tries < 20; tries++) {
                outcome = RANDOM.nextInt(2 * reach + 1) - reach;
                int left = hunt.after(aCase, k, weighing, outcome).size();
                if (left >= 2 || careless == 1 && RANDOM.nextInt(8) == 0) break;
            }
            rows.add(new int[] {number++, outcome});
            forge(hunt, hunt.after(aCase, k, weighing, outcome), k + 1, n - 1, careless, rows);
        }
    }
}
