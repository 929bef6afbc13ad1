import java.util.ArrayList;
import java.util.List;
import java.util.Random;

/** Runs of calls by chance (always the same ones): WeighCourt must answer as PlainCourt does. */
public final class RandomRunsTest {
    private static final int RUNS = 300;
    private static int wrong = 0;

    private final Random random;
    private final WeighCourt court = new WeighCourt();
    private final PlainCourt plain = new PlainCourt();
    private final List<String> calls = new ArrayList<>();
    private final int mostCoins;
    private boolean failed;

    private RandomRunsTest(long seed) {
        random = new Random(seed);
        int size = random.nextInt(10);
        mostCoins = size < 6 ? 6 : size < 8 ? 8 : size < 9 ? 12 : 40;
    }

    public static void main(String[] args) {
        int runs = args.length > 0 ? Integer.parseInt(args[0]) : RUNS;
        long first = args.length > 1 ? Long.parseLong(args[1]) : 1;
        for (long seed = first; seed < first + runs && wrong < 5; seed++) new RandomRunsTest(seed).run(seed);
        System.out.println(wrong == 0 ? "all runs are alike" : wrong + " runs are not alike");
        if (wrong != 0) System.exit(1);
    }

    private void run(long seed) {
        int length = 40 + random.nextInt(300);
        setUp();
        for (int i = 0; i < length && !failed; i++) anyCall();
        if (!failed) tellAll();
        if (failed) {
            wrong++;
            System.out.println("seed " + seed + ":");
            for (String call : calls.subList(Math.max(0, calls.size() - 60), calls.size())) System.out.println("  " + call);
        }
    }

    private void due(String call, long got, long want) {
        calls.add(call + " = " + got + (got == want ? "" : ", due is " + want));
        if (got != want) failed = true;
    }

    private int upTo(int n) {
        return random.nextInt(n + 1);
    }

    /** Mostly from lo to hi, now and then just outside, or far off. */
    private int about(int lo, int hi) {
        int dice = random.nextInt(40);
        if (dice == 0) return lo - 1;
        if (dice == 1) return hi + 1;
        if (dice == 2) return random.nextBoolean() ? Integer.MAX_VALUE : Integer.MIN_VALUE;
        return hi < lo ? lo : lo + random.nextInt(hi - lo + 1);
    }

    private int anyBalance() {
        return about(0, plain.scales.size() - 1);
    }

    private int anyCoin() {
        return about(0, plain.coins - 1);
    }

    private int anyTruth() {
        return about(0, plain.truths.size() - 1);
    }

    private void setUp() {
        if (random.nextInt(10) > 0) coins();
        int many = 1 + upTo(4);
        for (int i = 0; i < many; i++) balance();
        if (random.nextBoolean()) queue();
        if (random.nextBoolean()) lies();
    }

    private void anyCall() {
        int dice = random.nextInt(100);
        if (dice < 2) coins();
        else if (dice < 4) lies();
        else if (dice < 12) askOfCoins();
        else if (dice < 14) balance();
        else if (dice < 16) queue();
        else if (dice < 17) take();
        else if (dice < 20) pan();
        else if (dice < 28) askOfBalances();
        else if (dice < 36) wish();
        else if (dice < 44) load();
        else if (dice < 54) weigh();
        else if (dice < 58) undo();
        else if (dice < 66) search();
        else if (dice < 74) askOfTree();
        else if (dice < 84) rows();
        else if (dice < 92) fixed();
        else tell();
    }

    private void coins() {
        int n = about(1, mostCoins);
        int most = about(0, 3);
        int least = about(0, Math.max(0, Math.min(3, most)));
        int kinds = about(1, 3);
        due("coins(" + n + ", " + least + ", " + most + ", " + kinds + ")",
            court.coins(n, least, most, kinds), plain.coins(n, least, most, kinds));
    }

    private void lies() {
        int n = about(0, 3);
        due("lies(" + n + ")", court.lies(n), plain.lies(n));
    }

    private void askOfCoins() {
        int t = anyTruth();
        int c = anyCoin();
        int d = anyCoin();
        due("truth(" + t + ", " + c + ")", court.truth(t, c), plain.truth(t, c));
        due("lied(" + t + ")", court.lied(t), plain.lied(t));
        due("alike(" + c + ", " + d + ")", court.alike(c, d), plain.alike(c, d));
    }

    private void balance() {
        int kind = about(0, 5);
        due("balance(" + kind + ")", court.balance(kind), plain.balance(kind));
    }

    private void queue() {
        int a = anyBalance();
        int b = anyBalance();
        int c = random.nextBoolean() ? -1 : anyBalance();
        due("queue(" + a + ", " + b + ", " + c + ")", court.queue(a, b, c), plain.queue(a, b, c));
    }

    private void take() {
        int b = anyBalance();
        due("take(" + b + ")", court.take(b), plain.take(b));
    }

    private void pan() {
        int b = anyBalance();
        int side = about(0, 1);
        if (random.nextInt(5) == 0) {
            due("unpan(" + b + ", " + side + ")", court.unpan(b, side), plain.unpan(b, side));
        } else {
            int n = about(0, 20);
            due("pan(" + b + ", " + side + ", " + n + ")", court.pan(b, side, n), plain.pan(b, side, n));
        }
    }

    private void askOfBalances() {
        int b = anyBalance();
        int side = about(0, 1);
        int place = about(0, 6);
        int coin = about(-1, plain.coins - 1);
        int kind = about(0, 6);
        due("put(" + b + ", " + side + ", " + place + ", " + coin + ")",
            court.put(b, side, place, coin), plain.put(b, side, place, coin));
        due("at(" + b + ", " + side + ", " + place + ")", court.at(b, side, place), plain.at(b, side, place));
        int c = anyBalance();
        int to = about(0, 6);
        int n = about(0, 5);
        due("copy(" + b + ", " + side + ", " + place + ", " + c + ", " + to + ", " + n + ")",
            court.copy(b, side, place, c, to, n), plain.copy(b, side, place, c, to, n));
        due("is(" + b + ", " + kind + ")", court.is(b, kind), plain.is(b, kind));
        if (random.nextInt(3) == 0) due("as(" + b + ", " + kind + ")", court.as(b, kind), plain.as(b, kind));
        if (random.nextInt(3) == 0) due("complain(" + c + ")", court.complain(c), plain.complain(c));
    }

    private void wish() {
        int b = anyBalance();
        int what = about(0, 4);
        int d = about(-3, 3);
        due("wish(" + b + ", " + what + ", " + d + ")", court.wish(b, what, d), plain.wish(b, what, d));
        for (int i = -1; i < 7; i++) due("trace(" + i + ")", court.trace(i), plain.trace(i));
    }

    /** Lays as many COINS left as right on a BALANCE, so that weighings come about. */
    private void load() {
        int b = anyBalance();
        if (plain.coins < 2) return;
        int each = 1 + upTo(Math.min(plain.coins / 2, 20) - 1);
        List<Integer> all = new ArrayList<>();
        for (int c = 0; c < plain.coins; c++) all.add(c);
        for (int side = 0; side < 2; side++) {
            due("pan(" + b + ", " + side + ", " + each + ")", court.pan(b, side, each), plain.pan(b, side, each));
            for (int place = 0; place < each; place++) {
                int coin = all.remove(random.nextInt(all.size()));
                due("put(" + b + ", " + side + ", " + place + ", " + coin + ")",
                    court.put(b, side, place, coin), plain.put(b, side, place, coin));
            }
        }
    }

    private void weigh() {
        int b = anyBalance();
        int outcome = random.nextInt(4) == 0 ? about(-3, 3) : about(-1, 1);
        due("parts(" + b + ", " + outcome + ")", court.parts(b, outcome), plain.parts(b, outcome));
        due("weigh(" + b + ", " + outcome + ")", court.weigh(b, outcome), plain.weigh(b, outcome));
        due("count(2)", court.count(2), plain.count(2));
    }

    private void undo() {
        due("undo()", court.undo(), plain.undo());
    }

    private int someSteps() {
        return random.nextInt(3) == 0 ? about(1, 60) : about(1, 4000);
    }

    private void search() {
        int b = anyBalance();
        int steps = someSteps();
        due("search(" + b + ", " + steps + ")", court.search(b, steps), plain.search(b, steps));
        due("count(7)", court.count(7), plain.count(7));
        for (int i = upTo(3); i > 0; i--) {
            int more = someSteps();
            due("goOn(" + more + ")", court.goOn(more), plain.goOn(more));
            due("count(7)", court.count(7), plain.count(7));
        }
        due("least()", court.least(), plain.least());
        due("tree()", court.tree(), plain.tree());
    }

    private void askOfTree() {
        due("least()", court.least(), plain.least());
        int nodes = plain.tree();
        due("tree()", court.tree(), nodes);
        for (int i = 0; i < nodes && i < 60; i++) {
            for (int what = 0; what <= 10; what++) {
                due("node(" + i + ", " + what + ")", court.node(i, what), plain.node(i, what));
            }
            for (int k = 0; k <= plain.node(i, 0); k++) {
                due("nodeCoin(" + i + ", 0, " + k + ")", court.nodeCoin(i, 0, k), plain.nodeCoin(i, 0, k));
                due("nodeCoin(" + i + ", 1, " + k + ")", court.nodeCoin(i, 1, k), plain.nodeCoin(i, 1, k));
            }
        }
        int i = about(0, nodes);
        int what = about(0, 10);
        int side = about(0, 1);
        due("node(" + i + ", " + what + ")", court.node(i, what), plain.node(i, what));
        due("nodeCoin(" + i + ", " + side + ", " + what + ")", court.nodeCoin(i, side, what), plain.nodeCoin(i, side, what));
        for (int t = 0; t < Math.min(60, plain.truths.size()); t++) due("walk(" + t + ")", court.walk(t), plain.walk(t));
        int t = anyTruth();
        due("walk(" + t + ")", court.walk(t), plain.walk(t));
    }

    private void rows() {
        due("prove()", court.prove(), plain.prove());
        int rows = plain.rows();
        due("count(9)", court.count(9), rows);
        for (int i = 0; i <= rows; i++) {
            due("row(" + i + ", 0)", court.row(i, 0), plain.row(i, 0));
            due("row(" + i + ", 1)", court.row(i, 1), plain.row(i, 1));
        }
        due("check()", court.check(), plain.check());
        for (int i = upTo(6); i > 0; i--) spoilOne(about(0, rows - 1));
    }

    private void spoilOne(int i) {
        int what = random.nextInt(4) == 0 ? about(0, 1) : 1;
        int v = random.nextInt(6) == 0 ? about(-200, 20000) : about(-3, 3);
        int was = plain.row(i, what);
        due("spoil(" + i + ", " + what + ", " + v + ")", court.spoil(i, what, v), plain.spoil(i, what, v));
        due("check()", court.check(), plain.check());
        if (random.nextInt(5) == 0) return;
        due("spoil(" + i + ", " + what + ", " + was + ")", court.spoil(i, what, was), plain.spoil(i, what, was));
    }

    private void fixed() {
        for (int i = upTo(4); i > 0; i--) {
            int k = about(0, 5);
            long left = random.nextLong();
            long right = random.nextLong();
            if (random.nextInt(8) > 0 && plain.coins > 1) {
                left = 0;
                right = 0;
                for (int each = 1 + upTo(plain.coins / 2 - 1); each > 0; each--) {
                    left |= 1L << free(left | right);
                    right |= 1L << free(left | right);
                }
            }
            due("fix(" + k + ", " + left + ", " + right + ")", court.fix(k, left, right), plain.fix(k, left, right));
        }
        int b = anyBalance();
        int n = random.nextBoolean() ? about(1, 6) : about(1, 2);
        due("judge(" + b + ", " + n + ")", court.judge(b, n), plain.judge(b, n));
        for (int what = 0; what < 3; what++) due("judged(" + what + ")", court.judged(what), plain.judged(what));
        int what = about(0, 2);
        due("judged(" + what + ")", court.judged(what), plain.judged(what));
    }

    private int free(long taken) {
        int coin = random.nextInt(plain.coins);
        while ((taken >> coin & 1) == 1) coin = (coin + 1) % plain.coins;
        return coin;
    }

    private void tell() {
        int what = about(0, 10);
        due("count(" + what + ")", court.count(what), plain.count(what));
        due("status()", court.status(), plain.status());
        due("digest()", court.digest(), plain.digest());
    }

    private void tellAll() {
        for (int what = 0; what <= 10; what++) due("count(" + what + ")", court.count(what), plain.count(what));
        due("status()", court.status(), plain.status());
        due("digest()", court.digest(), plain.digest());
        for (int t = 0; t < plain.truths.size(); t += 7) {
            due("lied(" + t + ")", court.lied(t), plain.lied(t));
            for (int c = 0; c < plain.coins; c++) due("truth(" + t + ", " + c + ")", court.truth(t, c), plain.truth(t, c));
        }
        for (int c = 0; c < plain.coins; c++) due("alike(0, " + c + ")", court.alike(0, c), plain.alike(0, c));
    }
}
