/** Each promise by itself, with answers reckoned by hand from the document. */
public final class PromisesTest {
    private static final int NONE = -1000, BAD = -1001, STATE = -1002, FULL = -1003;
    private static final int NO_BALANCE = -1011, NO_PAN = -1012, BEYOND = -1013;
    private static final int NOT_THAT_ONE = -1014, SIZE = -1015, NOUGHT = -1016;
    private static final int LOW = Integer.MIN_VALUE, HIGH = Integer.MAX_VALUE;
    private static int wrong = 0;

    private static void due(String what, long got, long want) {
        if (got == want) return;
        wrong++;
        System.out.println(what + ": answered " + got + ", due is " + want);
    }

    public static void main(String[] args) {
        coinsAndTruths();
        balances();
        weighings();
        search();
        rows();
        toldAhead();
        told();
        System.out.println(wrong == 0 ? "all promises hold" : wrong + " answers are not as due");
        if (wrong != 0) System.exit(1);
    }

    private static void coinsAndTruths() {
        promise1();
        promise2();
        promise3();
        promise4();
        promise5();
        promise6();
    }

    private static void balances() {
        promise7();
        promise8();
        promise9();
        promise10();
        promise11();
        promise12();
        promise13();
        promise14();
        promise15();
        promise16and17();
        promise18();
        promise19();
    }

    private static void weighings() {
        promise20();
        weighingByLies();
        weighingByQueue();
        weighingIsRefused();
        promise21();
        promise22();
    }

    private static void search() {
        promise23();
        searchWithout();
        searchOnQueue();
        promise24();
        promise25and26();
        promise27and28();
        promise29();
        searchIsEnded();
    }

    private static void rows() {
        promise30();
        proveTooMany();
        promise31to33();
    }

    private static void toldAhead() {
        promise34();
        promise35and36();
        judgeOnQueue();
    }

    private static void told() {
        promise37();
        promise38();
        promise39();
    }

    /** Lays COINS in PLACES of both PANS, each as wide as there are COINS. */
    private static void load(WeighCourt x, int b, int[] left, int[] right) {
        int[][] coins = {left, right};
        for (int side = 0; side < 2; side++) {
            x.pan(b, side, coins[side].length);
            for (int i = 0; i < coins[side].length; i++) x.put(b, side, i, coins[side][i]);
        }
    }

    private static int[] some(int... coins) {
        return coins;
    }

    private static void traceIs(String what, WeighCourt x, int... numbers) {
        for (int i = 0; i < numbers.length; i++) due(what + " trace(" + i + ")", x.trace(i), numbers[i]);
        due(what + " trace ends", x.trace(numbers.length), NONE);
    }

    private static void promise1() {
        WeighCourt x = new WeighCourt();
        int[] counts = {0, 1, 1, 0, 0, 0, 0, 0, 0, 0, 0};
        for (int what = 0; what < counts.length; what++) due("1 count " + what, x.count(what), counts[what]);
        due("1 lied(0)", x.lied(0), 0);
        due("1 no coin", x.truth(0, 0), BAD);
        due("1 alike", x.alike(0, 0), BAD);
        due("1 status", x.status(), 0);
        due("1 digest", x.digest(), 31L * 31 * 31 * 17);
        due("1 no fixed coins", x.fix(0, 1, 2), BAD);
        due("1 balance", x.balance(0), 0);
        due("1 no fixed weighing", x.judge(0, 1), STATE);
        due("1 no judge", x.judged(0), STATE);
        due("1 weigh", x.weigh(0, 0), STATE);
        due("1 search", x.search(0, 1), STATE);
        due("1 undo", x.undo(), STATE);
        due("1 trace", x.trace(0), NONE);
        due("1 put no coin of none", x.put(0, 0, 0, 0), BAD);
    }

    private static void promise2() {
        WeighCourt x = new WeighCourt();
        due("2 one coin, none false", x.coins(1, 0, 0, 1), 1);
        due("2 all may be false", x.coins(3, 3, 3, 3), 8);
        due("2 heavier", x.coins(5, 1, 2, 1), 15);
        due("2 lighter", x.coins(5, 1, 2, 2), 15);
        due("2 both", x.coins(5, 0, 2, 3), 51);
        due("2 40 coins", x.coins(40, 3, 3, 1), 9880);
        due("2 20 coins", x.coins(20, 0, 3, 3), 9921);
        due("2 full", x.coins(40, 0, 3, 1), FULL);
        due("2 full by one kind more", x.coins(21, 3, 3, 3), FULL);
        due("2 nothing changed", x.count(0), 20);
        int[][] bad = {{0, 0, 0, 1}, {41, 0, 0, 1}, {-1, 0, 0, 1}, {5, -1, 1, 1}, {5, 0, 4, 1}, {5, 0, -1, 1},
            {2, 0, 3, 1}, {5, 2, 1, 1}, {5, 4, 4, 1}, {5, 0, 1, 0}, {5, 0, 1, 4}, {LOW, LOW, LOW, LOW},
            {HIGH, HIGH, HIGH, HIGH}, {HIGH, 0, 1, 1}, {5, LOW, 1, 1}, {41, 0, 3, 1}};
        for (int[] c : bad) due("2 bad " + c[0] + " " + c[1], x.coins(c[0], c[1], c[2], c[3]), BAD);
        due("2 still as before", x.count(1), 9921);
        x.lies(2);
        x.balance(0);
        x.coins(4, 1, 1, 1);
        load(x, 0, some(0), some(1));
        x.weigh(0, 1);
        due("2 again", x.coins(4, 1, 1, 1), 4);
        due("2 all left", x.count(2), 4);
        due("2 no weighings", x.count(5), 0);
        due("2 lies stay", x.count(6), 2);
        due("2 coins are off the pans", x.at(0, 0, 0), -1);
        due("2 pans stay", x.unpan(0, 0), 1);
        due("2 used stays", x.wish(0, 4, 0), 1);
    }

    private static void promise3() {
        WeighCourt x = new WeighCourt();
        due("3 without coins", x.lies(1), 0);
        x.coins(4, 1, 1, 3);
        due("3 what they were", x.lies(3), 1);
        due("3 bad 4", x.lies(4), BAD);
        due("3 bad -1", x.lies(-1), BAD);
        due("3 none", x.lies(0), 3);
        x.balance(5);
        load(x, 0, some(0), some(1));
        x.weigh(0, 0);
        due("3 bad ahead of state", x.lies(9), BAD);
        due("3 weighed", x.lies(1), STATE);
        x.undo();
        due("3 undone", x.lies(1), 0);
        x.weigh(0, 0);
        x.coins(4, 1, 1, 3);
        due("3 coins again", x.lies(2), 1);
    }

    private static void promise4() {
        WeighCourt x = new WeighCourt();
        due("4 truths", x.coins(3, 0, 2, 3), 19);
        int[][] truths = {{0, 0, 0}, {1, 0, 0}, {-1, 0, 0}, {0, 1, 0}, {0, -1, 0}, {0, 0, 1}, {0, 0, -1},
            {1, 1, 0}, {1, -1, 0}, {-1, 1, 0}, {-1, -1, 0}, {1, 0, 1}, {1, 0, -1}, {-1, 0, 1}, {-1, 0, -1},
            {0, 1, 1}, {0, 1, -1}, {0, -1, 1}, {0, -1, -1}};
        for (int t = 0; t < 19; t++) {
            for (int c = 0; c < 3; c++) due("4 truth " + t + " coin " + c, x.truth(t, c), truths[t][c]);
        }
        due("4 three lighter", x.coins(4, 3, 3, 2), 4);
        int[] honest = {3, 2, 1, 0};
        for (int t = 0; t < 4; t++) {
            for (int c = 0; c < 4; c++) due("4 lighter " + t + " " + c, x.truth(t, c), c == honest[t] ? 0 : -1);
        }
        x.coins(40, 3, 3, 1);
        due("4 the last one", x.truth(9879, 39) + x.truth(9879, 38) + x.truth(9879, 37), 3);
        int[][] bad = {{-1, 0}, {9880, 0}, {0, -1}, {0, 40}, {LOW, HIGH}};
        for (int[] b : bad) due("4 bad", x.truth(b[0], b[1]), BAD);
    }

    private static void promise5() {
        WeighCourt x = new WeighCourt();
        x.coins(3, 1, 1, 1);
        x.lies(1);
        x.balance(5);
        load(x, 0, some(0), some(1));
        x.weigh(0, 1);
        due("5 no lie", x.lied(0), 0);
        due("5 a lie", x.lied(1), 1);
        due("5 a lie, too", x.lied(2), 1);
        x.weigh(0, -1);
        due("5 its first lie", x.lied(0), 1);
        due("5 no lie more", x.lied(1), 1);
        due("5 struck", x.lied(2), NONE);
        due("5 bad -1", x.lied(-1), BAD);
        due("5 bad 3", x.lied(3), BAD);
    }

    private static void promise6() {
        WeighCourt x = new WeighCourt();
        x.coins(6, 1, 1, 3);
        x.balance(0);
        x.balance(5);
        due("6 all at first", x.alike(0, 5), 1);
        load(x, 0, some(0, 1), some(2, 3));
        x.weigh(0, 1);
        due("6 one side", x.alike(1, 0), 1);
        due("6 other side", x.alike(2, 3), 1);
        due("6 both sides", x.alike(1, 2), 0);
        due("6 beside", x.alike(5, 4), 1);
        due("6 itself", x.alike(2, 2), 1);
        due("6 bad", x.alike(0, 6), BAD);
        due("6 bad, too", x.alike(-1, 0), BAD);
        x.undo();
        due("6 undone", x.alike(1, 2), 1);
        x.lies(1);
        load(x, 1, some(0), some(1));
        x.weigh(1, 0);
        due("6 all are left", x.count(2), 12);
        due("6 unlike lies", x.alike(0, 2), 0);
        due("6 like lies", x.alike(0, 1), 1);
        x.weigh(1, 3);
        due("6 none is left", x.count(2), 0);
        due("6 alike in nothing", x.alike(0, 2), 1);
    }

    private static void promise7() {
        WeighCourt x = new WeighCourt();
        due("7 bad", x.balance(-1), BAD);
        due("7 no queue", x.balance(6), BAD);
        for (int i = 0; i < 12; i++) due("7 number", x.balance(i % 6), i);
        due("7 bad ahead of full", x.balance(7), BAD);
        due("7 full", x.balance(0), FULL);
        x.take(3);
        due("7 full still", x.balance(0), FULL);
        due("7 pans are missing", x.unpan(0, 0), NO_PAN);
    }

    private static void promise8() {
        WeighCourt x = new WeighCourt();
        due("8 none there", x.queue(0, 0, -1), BAD);
        for (int i = 0; i < 3; i++) x.balance(i);
        due("8 two", x.queue(0, 1, -1), 3);
        due("8 three", x.queue(2, 1, 0), 4);
        due("8 twice", x.queue(1, 1, 1), 5);
        due("8 bad a", x.queue(6, 0, -1), BAD);
        due("8 bad b", x.queue(0, -1, -1), BAD);
        due("8 bad c", x.queue(0, 0, -2), BAD);
        due("8 a queue in it", x.queue(0, 1, 3), NOT_THAT_ONE);
        due("8 the first one complains", x.complain(0), NOT_THAT_ONE);
        due("8 the second one doesn't", x.complain(1), NOUGHT);
        x.take(2);
        due("8 taken ahead of queue", x.queue(3, 2, -1), NO_BALANCE);
        due("8 a queue complains", x.complain(3), NO_BALANCE);
        due("8 taken one first", x.queue(2, 1, -1), NO_BALANCE);
        due("8 taken one last", x.queue(1, 0, 2), NO_BALANCE);
        for (int i = 6; i < 12; i++) x.balance(0);
        due("8 full ahead of findings", x.queue(2, 3, -1), FULL);
        due("8 bad ahead of full", x.queue(12, 0, -1), BAD);
        due("8 came", x.count(3), 12);
    }

    private static void promise9() {
        WeighCourt x = new WeighCourt();
        due("9 bad", x.take(0), BAD);
        x.balance(4);
        x.balance(1);
        x.queue(0, 1, -1);
        due("9 kind", x.take(0), 4);
        due("9 taken", x.take(0), NO_BALANCE);
        due("9 a queue", x.take(2), 6);
        due("9 bad -1", x.take(-1), BAD);
        due("9 there", x.count(4), 1);
        due("9 came", x.count(3), 3);
        due("9 next number", x.balance(0), 3);
    }

    private static void promise10() {
        WeighCourt x = new WeighCourt();
        x.coins(3, 0, 1, 1);
        x.balance(0);
        x.balance(0);
        x.queue(0, 1, -1);
        due("10 pan", x.pan(0, 0, 2), 1);
        x.put(0, 0, 1, 2);
        due("10 another pan", x.pan(0, 0, 20), 1);
        due("10 no coins", x.at(0, 0, 1), -1);
        due("10 the last place", x.at(0, 0, 19), -1);
        due("10 no places", x.pan(0, 1, 0), 1);
        due("10 beyond none", x.at(0, 1, 0), BEYOND);
        due("10 too many", x.pan(0, 0, 21), BAD);
        due("10 below nought", x.pan(0, 0, -1), SIZE);
        due("10 far below", x.pan(0, 0, LOW), SIZE);
        due("10 still there", x.at(0, 0, 19), -1);
        due("10 bad side", x.pan(0, 2, 1), BAD);
        due("10 bad side below", x.pan(0, -1, 1), BAD);
        due("10 bad number", x.pan(3, 0, 1), BAD);
        due("10 a queue", x.pan(2, 0, 1), NOT_THAT_ONE);
        due("10 queue ahead of size", x.pan(2, 0, -1), NOT_THAT_ONE);
        x.take(1);
        x.take(2);
        due("10 taken ahead of size", x.pan(1, 0, -1), NO_BALANCE);
        due("10 taken ahead of queue", x.pan(2, 0, 1), NO_BALANCE);
        due("10 bad ahead of taken", x.pan(1, 0, 21), BAD);
    }

    private static void promise11() {
        WeighCourt x = new WeighCourt();
        x.balance(0);
        x.balance(0);
        x.queue(0, 1, -1);
        x.pan(0, 0, 7);
        x.pan(0, 1, 0);
        due("11 places", x.unpan(0, 0), 7);
        due("11 no places", x.unpan(0, 1), 0);
        due("11 missing", x.unpan(0, 0), NO_PAN);
        due("11 a queue", x.unpan(2, 0), NOT_THAT_ONE);
        x.take(1);
        due("11 taken", x.unpan(1, 0), NO_BALANCE);
        due("11 bad side", x.unpan(0, 2), BAD);
        due("11 bad number", x.unpan(-1, 0), BAD);
    }

    private static void promise12() {
        WeighCourt x = new WeighCourt();
        x.coins(3, 0, 1, 1);
        x.balance(0);
        x.balance(0);
        x.queue(0, 1, -1);
        x.pan(0, 1, 2);
        due("12 put", x.put(0, 1, 1, 2), -1);
        due("12 put another", x.put(0, 1, 1, 0), 2);
        due("12 put none", x.put(0, 1, 1, -1), 0);
        due("12 no such coin", x.put(0, 1, 1, 3), BAD);
        due("12 no such coin below", x.put(0, 1, 1, -2), BAD);
        due("12 bad ahead of no pan", x.put(0, 0, 0, 3), BAD);
        due("12 no pan", x.put(0, 0, 9, 0), NO_PAN);
        due("12 beyond", x.put(0, 1, 2, 0), BEYOND);
        due("12 beyond below", x.put(0, 1, -1, 0), BEYOND);
        due("12 far beyond", x.put(0, 1, HIGH, 0), BEYOND);
        due("12 a queue", x.put(2, 1, 0, 0), NOT_THAT_ONE);
        x.take(1);
        due("12 taken", x.put(1, 0, 0, 0), NO_BALANCE);
        due("12 bad side", x.put(0, 2, 0, 0), BAD);
        due("12 bad number", x.put(3, 0, 0, 0), BAD);
        due("12 as before", x.at(0, 1, 1), -1);
    }

    private static void promise13() {
        WeighCourt x = new WeighCourt();
        x.coins(3, 0, 1, 1);
        x.balance(0);
        x.balance(0);
        x.queue(0, 1, -1);
        x.pan(0, 1, 2);
        x.put(0, 1, 0, 2);
        due("13 a coin", x.at(0, 1, 0), 2);
        due("13 none", x.at(0, 1, 1), -1);
        due("13 beyond", x.at(0, 1, 2), BEYOND);
        due("13 below", x.at(0, 1, LOW), BEYOND);
        due("13 no pan", x.at(0, 0, 0), NO_PAN);
        due("13 a queue", x.at(2, 1, 0), NOT_THAT_ONE);
        x.take(1);
        due("13 taken", x.at(1, 1, 0), NO_BALANCE);
        due("13 bad", x.at(0, 5, 0), BAD);
        due("13 bad number", x.at(4, 0, 0), BAD);
    }

    private static void promise14() {
        WeighCourt x = new WeighCourt();
        x.coins(6, 0, 1, 1);
        for (int i = 0; i < 3; i++) x.balance(0);
        x.queue(0, 1, -1);
        x.pan(0, 0, 5);
        x.pan(1, 0, 3);
        for (int i = 0; i < 4; i++) x.put(0, 0, i, i);
        due("14 to another", x.copy(0, 0, 2, 1, 0, 3), 3);
        due("14 first", x.at(1, 0, 0), 2);
        due("14 none is copied, too", x.at(1, 0, 2), -1);
        due("14 over itself", x.copy(0, 0, 0, 0, 1, 4), 4);
        int[] rising = {0, 0, 1, 2, 3};
        for (int i = 0; i < 5; i++) due("14 as taken ahead " + i, x.at(0, 0, i), rising[i]);
        due("14 back over itself", x.copy(0, 0, 2, 0, 0, 3), 3);
        int[] falling = {1, 2, 3, 2, 3};
        for (int i = 0; i < 5; i++) due("14 back " + i, x.at(0, 0, i), falling[i]);
        due("14 nothing, at the ends", x.copy(0, 0, 5, 1, 3, 0), 0);
        int[][] beyond = {{0, 0, -1}, {-1, 0, 1}, {0, -1, 1}, {3, 0, 3}, {0, 1, 3}, {6, 0, 0}, {0, 4, 0},
            {HIGH, 0, HIGH}, {0, HIGH, HIGH}, {LOW, LOW, LOW}, {1, 1, HIGH}};
        for (int[] b : beyond) due("14 beyond " + b[0] + " " + b[1], x.copy(0, 0, b[0], 1, b[1], b[2]), BEYOND);
        due("14 b's pan is missing", x.copy(2, 0, 0, 0, 0, 1), NO_PAN);
        due("14 b complains", x.complain(2), NO_PAN);
        due("14 c's pan is missing", x.copy(0, 0, -1, 2, 0, 1), NO_PAN);
        due("14 b a queue", x.copy(3, 0, 0, 0, 0, 1), NOT_THAT_ONE);
        due("14 c a queue", x.copy(2, 0, 0, 3, 0, 1), NOT_THAT_ONE);
        x.take(1);
        due("14 c taken", x.copy(3, 0, 0, 1, 0, 1), NO_BALANCE);
        due("14 b taken", x.copy(1, 0, 0, 3, 0, 1), NO_BALANCE);
        due("14 c does not complain", x.complain(3), NO_BALANCE);
        due("14 bad side", x.copy(0, 2, 0, 0, 0, 1), BAD);
        due("14 bad b", x.copy(4, 0, 0, 0, 0, 1), BAD);
        due("14 bad c", x.copy(1, 0, 0, -1, 0, 1), BAD);
    }

    private static void promise15() {
        WeighCourt x = new WeighCourt();
        x.balance(0);
        x.balance(0);
        due("15 none", x.complain(0), NOUGHT);
        due("15 none again", x.complain(0), NOUGHT);
        x.unpan(0, 0);
        x.pan(1, 0, -1);
        due("15 its own", x.complain(0), NO_PAN);
        due("15 status", x.status(), 2);
        due("15 the other's", x.complain(1), SIZE);
        due("15 refused calls leave it", x.pan(1, 0, 21), BAD);
        due("15 once more", x.complain(1), SIZE);
        due("15 findings count", x.count(10), 7);
        x.take(0);
        due("15 taken", x.complain(0), NO_BALANCE);
        due("15 bad", x.complain(2), BAD);
        due("15 bad below", x.complain(-1), BAD);
    }

    private static void promise16and17() {
        WeighCourt x = new WeighCourt();
        for (int kind = 0; kind < 6; kind++) x.balance(kind);
        x.queue(0, 1, -1);
        String[] below = {"0", "01", "012", "0123", "04", "05", "6"};
        for (int b = 0; b < 7; b++) {
            for (int kind = 0; kind < 7; kind++) {
                boolean is = below[b].indexOf('0' + kind) >= 0;
                due("16 is(" + b + ", " + kind + ")", x.is(b, kind), is ? 1 : 0);
                due("17 as(" + b + ", " + kind + ")", x.as(b, kind), is ? 1 : NOT_THAT_ONE);
            }
        }
        due("17 complains", x.complain(0), NOT_THAT_ONE);
        x.take(2);
        due("16 taken", x.is(2, 0), NO_BALANCE);
        due("17 taken", x.as(2, 0), NO_BALANCE);
        due("16 bad kind", x.is(2, 7), BAD);
        due("16 bad kind below", x.is(0, -1), BAD);
        due("17 bad kind", x.as(0, 7), BAD);
        due("16 bad number", x.is(7, 0), BAD);
        due("17 bad number", x.as(-1, 0), BAD);
    }

    private static void promise18() {
        WeighCourt x = new WeighCourt();
        x.coins(8, 0, 1, 1);
        for (int kind = 0; kind < 6; kind++) x.balance(kind);
        int[][] tells = {{-1, -1, -1, 0, 1, 1, 1}, {-3, -2, -1, 0, 1, 2, 3}, {-1, -1, 0, 0, 0, 1, 1},
            {-1, -1, 0, 0, 0, 1, 1}, {-1, -1, 0, 0, 0, 1, 1}, {-1, -1, -1, 0, 1, 1, 1}};
        int[] most = {1, 3, 1, 1, 1, 1};
        for (int b = 0; b < 6; b++) {
            for (int d = -3; d <= 3; d++) due("18 tells " + b + " of " + d, x.wish(b, 0, d), tells[b][d + 3]);
            due("18 most " + b, x.wish(b, 1, 99), most[b]);
            due("18 sure " + b, x.wish(b, 3, LOW), b == 5 ? 0 : 1);
        }
        load(x, 0, some(0, 1, 2), some(3, 4));
        load(x, 3, some(0, 1, 2), some(3, 4, 5));
        load(x, 5, some(0, 1, 2, 3), some());
        x.unpan(5, 1);
        due("18 cost, cut", x.wish(0, 2, 0), 3);
        due("18 cost of worn", x.wish(3, 2, 0), 12);
        due("18 cost of lying, a pan missing", x.wish(5, 2, 0), 1);
        due("18 cost without pans", x.wish(1, 2, 0), 1);
        x.weigh(3, 0);
        x.weigh(3, 0);
        due("18 used", x.wish(3, 4, HIGH), 2);
        due("18 cost of worn, used", x.wish(3, 2, 0), 14);
        due("18 queue", x.queue(0, 3, 5), 6);
        due("18 most of queue", x.wish(6, 1, 0), 1);
        due("18 cost of queue", x.wish(6, 2, 0), 18);
        due("18 sure of queue", x.wish(6, 3, 0), 1);
        traceIs("18 sure of queue", x, 40);
        due("18 tells of queue", x.wish(6, 0, 0), NOT_THAT_ONE);
        due("18 used of queue", x.wish(6, 4, 0), 0);
        x.take(3);
        due("18 one of a queue's is taken", x.wish(6, 1, 0), NO_BALANCE);
        traceIs("18 most up to that", x, 26, 20);
        due("18 queue complains", x.complain(6), NO_BALANCE);
        due("18 cost up to that", x.wish(6, 2, 0), NO_BALANCE);
        traceIs("18 cost up to that", x, 36, 30);
        due("18 sure all the same", x.wish(6, 3, 0), 1);
        due("18 used all the same", x.wish(6, 4, 0), 0);
        due("18 taken", x.wish(3, 3, 0), NO_BALANCE);
        int[][] bad = {{7, 1, 0}, {-1, 1, 0}, {0, 5, 0}, {0, -1, 0}, {0, 0, 4}, {0, 0, -4}, {6, 0, 4}, {3, 9, 0}};
        for (int[] b : bad) due("18 bad " + b[0] + " " + b[1], x.wish(b[0], b[1], b[2]), BAD);
    }

    private static void promise19() {
        WeighCourt x = new WeighCourt();
        for (int kind = 0; kind < 6; kind++) x.balance(kind);
        x.queue(3, 3, 3);
        int[][] numbers = {{0, 0, 10}, {1, 0, 11}, {2, 0, 12, 11}, {3, 0, 12, 11}, {4, 0, 14}, {5, 0, 10},
            {0, 1, 20}, {1, 1, 21, 20}, {2, 1, 22, 21, 20}, {3, 1, 22, 21, 20}, {4, 1, 20}, {5, 1, 20},
            {0, 2, 30}, {1, 2, 30}, {2, 2, 30}, {3, 2, 33, 30}, {4, 2, 30}, {5, 2, 35, 30},
            {0, 3, 40}, {3, 3, 40}, {5, 3, 45}, {0, 4}, {6, 4}};
        for (int[] n : numbers) {
            x.wish(n[0], n[1], 0);
            traceIs("19 of " + n[0] + " " + n[1], x, java.util.Arrays.copyOfRange(n, 2, n.length));
        }
        x.wish(4, 0, 2);
        traceIs("19 blunt asks above", x, 14, 10);
        x.wish(6, 2, 0);
        traceIs("19 the first six of seven", x, 36, 33, 30, 33, 30, 33);
        due("19 below", x.trace(-1), NONE);
        due("19 far", x.trace(HIGH), NONE);
        x.wish(0, 9, 0);
        traceIs("19 bad leaves it", x, 36, 33, 30, 33, 30, 33);
        x.wish(6, 0, 0);
        traceIs("19 found empties it", x);
        x.wish(0, 0, 1);
        x.take(1);
        x.wish(1, 0, 1);
        traceIs("19 taken empties it", x);
        x.wish(0, 0, 1);
        x.coins(4, 1, 1, 1);
        load(x, 2, some(0), some(1));
        x.weigh(2, 0);
        x.search(0, 100);
        x.fix(0, 1, 2);
        x.judge(2, 1);
        traceIs("19 truths leave nothing", x, 10);
    }

    private static void promise20() {
        WeighCourt x = new WeighCourt();
        x.coins(4, 2, 2, 3);
        for (int kind = 0; kind < 6; kind++) {
            x.balance(kind);
            load(x, kind, some(0, 1), some(2, 3));
        }
        // Differences: COINS on one side 2, 0, 0, -2 (and turned round); on both sides 0, 2, -2, 0 four times.
        due("20 scale 2", x.weigh(1, 2), 6);
        x.undo();
        due("20 scale 0", x.weigh(1, 0), 12);
        x.undo();
        due("20 scale 1", x.weigh(1, 1), 0);
        due("20 none is left, still", x.weigh(1, 0), 0);
        x.undo();
        x.undo();
        due("20 coarse 1", x.weigh(2, 1), 6);
        x.undo();
        due("20 blunt -1", x.weigh(4, -1), 6);
        x.undo();
        due("20 blunt 2", x.weigh(4, 2), 0);
        x.undo();
        due("20 used", x.wish(4, 4, 0), 2);
        due("20 worn 0", x.weigh(3, 0), 12);
        due("20 plain 1", x.weigh(0, 1), 0);
        due("20 weighings", x.count(5), 2);
    }

    private static void weighingByLies() {
        WeighCourt x = new WeighCourt();
        x.coins(3, 1, 1, 1);
        x.lies(1);
        x.balance(5);
        load(x, 0, some(0), some(1));
        due("20 by lies", x.weigh(0, 1), 3);
        due("20 by more lies", x.weigh(0, -1), 2);
        due("20 no lies more", x.weigh(0, 0), 0);
        x.undo();
        due("20 no lie tells 2", x.weigh(0, 2), 0);
        x.undo();
        x.undo();
        x.undo();
        due("20 2 at once", x.weigh(0, 2), 0);
        x.undo();
        x.lies(0);
        due("20 without lies", x.weigh(0, 1), 1);
    }

    private static void weighingByQueue() {
        WeighCourt x = new WeighCourt();
        x.coins(4, 1, 1, 1);
        x.balance(0);
        x.balance(1);
        x.queue(0, 1, -1);
        load(x, 0, some(0, 1), some(2, 3));
        load(x, 1, some(0), some(1));
        due("20 first of queue", x.weigh(2, 1), 2);
        due("20 second of queue", x.weigh(2, 1), 1);
        due("20 first again", x.parts(2, 1), 1);
        due("20 used first", x.wish(0, 4, 0), 1);
        due("20 used second", x.wish(1, 4, 0), 1);
        due("20 used queue", x.wish(2, 4, 0), 2);
        x.undo();
        due("20 the second one's turn again", x.parts(2, -1), 1);
        x.take(0);
        due("20 the other one's turn", x.weigh(2, 1), 1);
        due("20 turn of the taken one", x.weigh(2, 1), NO_BALANCE);
        due("20 queue complains", x.complain(2), NO_BALANCE);
        x.undo();
        x.unpan(1, 1);
        due("20 no pan in queue", x.weigh(2, 1), NO_PAN);
        due("20 queue complains of it", x.complain(2), NO_PAN);
        due("20 that one doesn't", x.complain(1), NOUGHT);
    }

    private static void weighingIsRefused() {
        WeighCourt x = new WeighCourt();
        x.balance(0);
        x.balance(0);
        x.take(1);
        due("20 no coins, ahead of no balance", x.weigh(1, 0), STATE);
        x.coins(6, 1, 1, 3);
        due("20 taken", x.weigh(1, 0), NO_BALANCE);
        due("20 bad number", x.weigh(2, 0), BAD);
        due("20 bad outcome", x.weigh(0, 4), BAD);
        due("20 bad outcome below", x.weigh(0, -4), BAD);
        x.pan(0, 1, 4);
        due("20 no left pan", x.weigh(0, 0), NO_PAN);
        x.pan(0, 0, 4);
        due("20 no coins lie there", x.weigh(0, 0), STATE);
        x.put(0, 0, 0, 0);
        due("20 one lies left", x.weigh(0, 0), STATE);
        x.put(0, 1, 3, 0);
        due("20 the same one right", x.weigh(0, 0), STATE);
        x.put(0, 1, 3, 1);
        due("20 fair", x.parts(0, 0), 8);
        x.put(0, 0, 1, 0);
        x.put(0, 1, 0, 2);
        due("20 one twice left", x.weigh(0, 0), STATE);
        x.put(0, 0, 1, -1);
        x.put(0, 1, 0, -1);
        for (int i = 0; i < 30; i++) due("20 thirty", x.weigh(0, 0), 8);
        due("20 full", x.weigh(0, 0), FULL);
        due("21 not full", x.parts(0, 0), 8);
        x.put(0, 0, 0, 1);
        due("20 state ahead of full", x.weigh(0, 0), STATE);
        x.unpan(0, 0);
        due("20 findings ahead of full", x.weigh(0, 0), NO_PAN);
        due("20 used", x.wish(0, 4, 0), 30);
    }

    private static void promise21() {
        WeighCourt x = new WeighCourt();
        x.balance(5);
        due("21 no coins", x.parts(0, 0), STATE);
        x.coins(5, 1, 1, 3);
        due("21 no pan", x.parts(0, 0), NO_PAN);
        load(x, 0, some(0, 1), some(2, 3));
        long before = x.digest();
        due("21 left heavier", x.parts(0, 1), 4);
        due("21 even", x.parts(0, 0), 2);
        due("21 none", x.parts(0, 3), 0);
        due("21 nothing changes", x.digest(), before);
        due("21 no weighing", x.count(5), 0);
        x.search(0, 1);
        x.parts(0, 1);
        due("21 the search stays", x.count(7), 1);
        x.lies(2);
        due("21 by lies", x.parts(0, 1), 10);
        due("21 bad", x.parts(0, 9), BAD);
        due("21 bad number", x.parts(1, 0), BAD);
        x.put(0, 0, 0, -1);
        due("21 not as many", x.parts(0, 0), STATE);
        x.take(0);
        due("21 taken", x.parts(0, 0), NO_BALANCE);
    }

    private static void promise22() {
        WeighCourt x = new WeighCourt();
        due("22 none", x.undo(), STATE);
        x.coins(3, 1, 1, 1);
        x.lies(2);
        x.balance(5);
        load(x, 0, some(0), some(1));
        long[] digests = new long[4];
        int[] left = new int[4];
        int[] outcomes = {1, -1, 0};
        for (int i = 0; i < 3; i++) {
            left[i] = x.count(2);
            digests[i] = lies(x);
            x.weigh(0, outcomes[i]);
        }
        for (int i = 2; i >= 0; i--) {
            due("22 left " + i, x.undo(), left[i]);
            due("22 lies " + i, lies(x), digests[i]);
        }
        due("22 no more", x.undo(), STATE);
        due("22 used stays", x.wish(0, 4, 0), 3);
        x.weigh(0, 1);
        x.coins(3, 1, 1, 1);
        due("22 none since coins()", x.undo(), STATE);
    }

    private static long lies(WeighCourt x) {
        return x.lied(0) * 1000000L + x.lied(1) * 1000L + x.lied(2);
    }

    private static void promise23() {
        WeighCourt x = new WeighCourt();
        x.coins(2, 1, 1, 1);
        x.balance(0);
        // n = 0: 1 STEP; n = 1: CAN, the one WEIGHING, its three OUTCOMES: 5 STEPS.
        due("23 one too few", x.search(0, 5), 0);
        due("23 steps", x.count(7), 5);
        due("23 just enough", x.search(0, 6), 1);
        due("23 steps in all of it", x.count(7), 6);
        due("23 more than enough", x.search(0, 10000), 1);
        due("23 steps done", x.count(7), 6);
        due("23 steps told", x.count(8), 10011);
        int[][] bad = {{0, 0}, {0, 10001}, {1, 1}, {-1, 1}, {0, -1}, {0, HIGH}};
        for (int[] b : bad) due("23 bad", x.search(b[0], b[1]), BAD);
        x.search(0, 10000);
        due("23 full", x.search(0, 9990), FULL);
        due("23 refused ones end none", x.least(), 1);
        due("23 the last ones", x.search(0, 9989), 1);
        due("23 told in all", x.count(8), 30000);
        due("23 full for good", x.search(0, 1), FULL);
        x.coins(2, 1, 1, 1);
        due("23 full behind coins()", x.search(0, 1), FULL);
        x.take(0);
        due("23 full ahead of no balance", x.search(0, 1), FULL);
        x.coins(13, 0, 1, 1);
        due("23 state ahead of full", x.search(0, 1), STATE);
    }

    private static void searchWithout() {
        WeighCourt x = new WeighCourt();
        x.balance(0);
        due("23 no coins", x.search(0, 1), STATE);
        x.coins(13, 1, 1, 1);
        due("23 13 coins", x.search(0, 1), STATE);
        x.coins(12, 2, 2, 1);
        due("23 66 truths", x.search(0, 1), STATE);
        x.coins(6, 2, 2, 3);
        due("23 60 truths", x.search(0, 1), 0);
        load(x, 0, some(0), some(1));
        x.weigh(0, 3);
        due("23 none left", x.search(0, 1), STATE);
        x.undo();
        due("23 left again", x.search(0, 1), 0);
        x.balance(0);
        x.queue(0, 1, -1);
        x.take(1);
        due("23 one of a queue's", x.search(2, 1), NO_BALANCE);
        due("23 it complains", x.complain(2), NO_BALANCE);
        due("23 taken", x.search(1, 1), NO_BALANCE);
        due("23 found ones are not told", x.count(8), 2);
        // One COIN can't be weighed: seven CANs, each no.
        x.coins(1, 0, 1, 1);
        due("23 six steps", x.search(0, 6), 0);
        due("23 without any", x.goOn(1), 1);
        due("25 none", x.least(), NONE);
        due("26 no tree", x.tree(), STATE);
        due("27 no node", x.node(0, 0), BAD);
        due("29 no walk", x.walk(0), STATE);
        due("30 no rows", x.prove(), STATE);
        due("24 over", x.goOn(1), STATE);
        x.coins(1, 0, 0, 1);
        due("23 one truth", x.search(0, 1), 1);
        due("25 nought", x.least(), 0);
        due("26 one node", x.tree(), 1);
        due("27 a verdict", x.node(0, 1), 0);
        due("27 it has no coins", x.node(0, 0), 0);
        due("29 walk", x.walk(0), 0);
        due("30 least is 0", x.prove(), STATE);
    }

    private static void searchOnQueue() {
        WeighCourt x = new WeighCourt();
        // One FALSE COIN leaves a BLUNT one even: every second WEIGHING of this QUEUE tells nothing.
        x.coins(3, 1, 1, 1);
        x.balance(4);
        x.balance(0);
        x.queue(0, 1, -1);
        due("23 queue", x.search(2, 1000), 1);
        due("25 the blunt one first", x.least(), 2);
        load(x, 0, some(0), some(1));
        due("20 all are left", x.weigh(0, 0), 3);
        due("23 queue at turn 1", x.search(2, 1000), 1);
        due("25 the plain one first", x.least(), 1);
        for (int t = 0; t < 3; t++) due("29 at turn 1", x.node(x.walk(t), 1), t);
        x.weigh(0, 0);
        x.search(2, 1000);
        due("25 the blunt one again", x.least(), 2);
        x.prove();
        // Its ROWS: of one WEIGHING with the blunt one, even, all three are left.
        int[][] rows = {{0, 0}, {-1, 3}};
        due("30 rows", x.count(9), 2);
        for (int i = 0; i < 2; i++) {
            due("31 row " + i, x.row(i, 0), rows[i][0]);
            due("31 row " + i, x.row(i, 1), rows[i][1]);
        }
        due("33 check", x.check(), 1);
        due("23 blunt alone", x.search(0, 1000), 1);
        due("25 never", x.least(), NONE);
        // MOST of a QUEUE is its greatest: 4 of one WEIGHING are not too many for it, but for the plain one.
        x.coins(4, 1, 1, 1);
        x.balance(1);
        x.queue(1, 3, -1);
        x.search(4, 1000);
        int ofQueue = x.count(7);
        x.search(1, 1000);
        due("23 more steps", ofQueue > x.count(7) ? 1 : 0, 1);
    }

    private static void promise24() {
        WeighCourt x = new WeighCourt();
        due("24 none", x.goOn(1), STATE);
        due("24 bad ahead of state", x.goOn(0), BAD);
        x.coins(4, 1, 1, 3);
        x.balance(0);
        int done = 0;
        int answer = x.search(0, 1);
        for (int i = 1; answer == 0 && i < 100; i++) {
            due("24 steps so far", x.count(7), i);
            due("24 not over", x.least(), STATE);
            done = i + 1;
            answer = x.goOn(1);
        }
        due("24 over", answer, 1);
        due("24 as many one by one as at once", done, 55);
        due("24 least", x.least(), 3);
        due("24 no more", x.goOn(1), STATE);
        due("24 bad", x.goOn(10001), BAD);
        due("24 bad below", x.goOn(LOW), BAD);
        x.search(0, 1);
        x.search(0, 10000);
        x.search(0, 10000);
        x.search(0, 1);
        due("24 full", x.goOn(9999), FULL);
        due("24 told", x.count(8), 20057);
        due("24 goes on", x.goOn(9943), 1);
        due("24 told in all", x.count(8), 30000);
    }

    private static void promise25and26() {
        WeighCourt x = new WeighCourt();
        due("25 no search", x.least(), STATE);
        due("26 no search", x.tree(), STATE);
        int[][] heavier = {{2, 1, 3}, {3, 1, 4}, {4, 2, 6}, {9, 2, 13}};
        x.balance(0);
        for (int[] h : heavier) {
            x.coins(h[0], 1, 1, 1);
            x.search(0, 2000);
            due("25 " + h[0] + " coins", x.least(), h[1]);
            due("26 " + h[0] + " coins", x.tree(), h[2]);
        }
        x.balance(5);
        x.coins(2, 1, 1, 1);
        x.lies(1);
        // With a LIE: one more LIE for each that does not fit; an even OUTCOME gives both one.
        x.search(1, 2000);
        due("25 a lie costs two weighings", x.least(), 3);
        x.search(0, 2);
        due("25 not over", x.least(), STATE);
        due("26 not over", x.tree(), STATE);
    }

    private static void promise27and28() {
        WeighCourt x = new WeighCourt();
        x.coins(4, 1, 1, 1);
        x.balance(0);
        x.search(0, 2000);
        // 0 against 1: -1 coin 1, 0 coins 2 and 3, 1 coin 0.
        int[][] nodes = {
            {1, NONE, 4, 0, NONE, NONE, 1, 2, 5, NONE, NONE},
            {0, 1, 1, 1, NONE, NONE, NONE, NONE, NONE, NONE, NONE},
            {1, NONE, 2, 1, NONE, NONE, 3, 4, NONE, NONE, NONE},
            {0, 2, 1, 2, NONE, NONE, NONE, NONE, NONE, NONE, NONE},
            {0, 3, 1, 2, NONE, NONE, NONE, NONE, NONE, NONE, NONE},
            {0, 0, 1, 1, NONE, NONE, NONE, NONE, NONE, NONE, NONE}};
        for (int i = 0; i < nodes.length; i++) {
            for (int what = 0; what <= 10; what++) due("27 node " + i + " " + what, x.node(i, what), nodes[i][what]);
        }
        int[][] bad = {{-1, 0}, {6, 0}, {0, -1}, {0, 11}, {HIGH, 0}, {0, LOW}};
        for (int[] b : bad) due("27 bad", x.node(b[0], b[1]), BAD);
        due("28 left", x.nodeCoin(0, 0, 0), 0);
        due("28 right", x.nodeCoin(0, 1, 0), 1);
        // {2, 3}: groups {0, 1}, {2, 3}; 0 against 1 does not do, 0 against 2 does.
        due("28 left below", x.nodeCoin(2, 0, 0), 0);
        due("28 right below", x.nodeCoin(2, 1, 0), 2);
        int[][] badCoins = {{0, 0, 1}, {0, 0, -1}, {0, 2, 0}, {0, -1, 0}, {1, 0, 0}, {6, 0, 0}, {-1, 0, 0}, {0, 1, HIGH}};
        for (int[] b : badCoins) due("28 bad", x.nodeCoin(b[0], b[1], b[2]), BAD);
        x.coins(4, 1, 1, 1);
        due("27 without a tree", x.node(0, 0), BAD);
        due("28 without a tree", x.nodeCoin(0, 0, 0), BAD);
        x.coins(9, 1, 1, 2);
        x.search(0, 2000);
        for (int k = 0; k < 3; k++) {
            due("28 rising left", x.nodeCoin(0, 0, k), k);
            due("28 rising right", x.nodeCoin(0, 1, k), 3 + k);
        }
    }

    private static void promise29() {
        WeighCourt x = new WeighCourt();
        x.coins(12, 1, 1, 3);
        x.balance(0);
        due("29 no tree", x.walk(0), STATE);
        due("29 bad ahead of state", x.walk(24), BAD);
        x.search(0, 2000);
        for (int t = 0; t < 24; t++) due("29 verdict of " + t, x.node(x.walk(t), 1), t);
        due("29 bad", x.walk(-1), BAD);
        load(x, 0, some(0, 1), some(2, 3));
        x.weigh(0, 1);
        due("29 struck ahead of state", x.walk(23), BAD);
        due("29 no tree more", x.walk(0), STATE);
        x.search(0, 2000);
        due("29 left", x.node(x.walk(7), 1), 7);
        due("29 struck", x.walk(8), BAD);
        x.coins(3, 1, 1, 1);
        x.lies(1);
        x.balance(5);
        x.search(1, 5000);
        for (int t = 0; t < 3; t++) due("29 by the tree of a liar", x.node(x.walk(t), 1), t);
    }

    private static void searchIsEnded() {
        for (int how = 0; how < 6; how++) {
            WeighCourt x = new WeighCourt();
            x.coins(4, 1, 1, 3);
            x.balance(0);
            x.balance(0);
            load(x, 0, some(0), some(1));
            if (how == 4) x.weigh(0, 0);
            x.search(0, 2000);
            x.prove();
            refusedCallsOf(x);
            due("23 the search stands " + how, x.tree() > 0 ? 1 : 0, 1);
            if (how == 0) x.coins(4, 1, 1, 3);
            if (how == 1) x.lies(0);
            if (how == 2) x.take(1);
            if (how == 3) x.weigh(0, 0);
            if (how == 4) x.undo();
            if (how == 5) x.search(1, 1);
            due("23 ended, least " + how, x.least(), STATE);
            due("23 ended, tree " + how, x.tree(), STATE);
            due("23 ended, rows " + how, x.count(9), 0);
            due("23 ended, row " + how, x.row(0, 0), BAD);
            due("23 ended, check " + how, x.check(), STATE);
            due("23 ended, steps " + how, x.count(7), how == 5 ? 1 : 0);
            due("23 ended, goOn " + how, x.goOn(1), how == 5 ? 0 : STATE);
        }
    }

    private static void refusedCallsOf(WeighCourt x) {
        x.coins(0, 0, 0, 0);
        x.lies(7);
        x.take(9);
        x.weigh(1, 0);
        x.search(0, 0);
        x.balance(2);
        x.put(0, 0, 0, 3);
        x.put(0, 0, 0, 0);
        x.parts(0, 1);
    }

    private static void promise30() {
        WeighCourt x = new WeighCourt();
        due("30 no search", x.prove(), STATE);
        x.coins(4, 1, 1, 3);
        x.balance(0);
        x.search(0, 3);
        due("30 not over", x.prove(), STATE);
        x.goOn(3000);
        due("30 least", x.least(), 3);
        due("30 rows", x.prove(), 4);
        due("30 count", x.count(9), 4);
        due("30 asked already", x.prove(), STATE);
        x.search(0, 3000);
        due("30 none of this search", x.count(9), 0);
        due("30 of this one", x.prove(), 4);
    }

    private static void proveTooMany() {
        WeighCourt x = new WeighCourt();
        x.coins(4, 1, 1, 3);
        x.lies(1);
        x.balance(5);
        due("30 over", x.search(0, 10000), 1);
        due("30 least", x.least(), 5);
        due("30 full", x.prove(), FULL);
        due("30 none then", x.count(9), 0);
        due("31 none then", x.row(0, 0), BAD);
        due("33 none then", x.check(), STATE);
        due("30 asked already", x.prove(), STATE);
    }

    private static void promise31to33() {
        WeighCourt x = new WeighCourt();
        due("31 none", x.row(0, 0), BAD);
        due("32 none", x.spoil(0, 0, 0), BAD);
        due("33 none", x.check(), STATE);
        x.coins(4, 1, 1, 3);
        x.balance(0);
        x.search(0, 3000);
        due("31 not asked", x.row(0, 0), BAD);
        due("33 not asked", x.check(), STATE);
        x.prove();
        // Two WEIGHINGS: even, one on each side, leaves 4 of one more; two on each side leave 4 of one more.
        int[][] rows = {{0, 0}, {-1, 4}, {1, -1}, {-1, 4}};
        for (int i = 0; i < 4; i++) {
            due("31 row " + i, x.row(i, 0), rows[i][0]);
            due("31 row " + i, x.row(i, 1), rows[i][1]);
        }
        int[][] bad = {{-1, 0}, {4, 0}, {0, 2}, {0, -1}};
        for (int[] b : bad) {
            due("31 bad", x.row(b[0], b[1]), BAD);
            due("32 bad", x.spoil(b[0], b[1], 0), BAD);
        }
        due("32 too low", x.spoil(0, 0, -201), BAD);
        due("32 too high", x.spoil(0, 0, 20001), BAD);
        due("33 they hold", x.check(), 1);
        // Each change alone: the row, which number, to what, and whether they hold.
        int[][] spoilt = {{2, 1, 1, 1}, {2, 1, 0, 0}, {0, 1, -1, 0}, {0, 1, 2, 0}, {1, 1, 3, 0}, {1, 1, 5, 0},
            {1, 0, 0, 0}, {0, 0, 1, 0}, {2, 0, 0, 0}, {2, 0, -1, 0}, {3, 0, 20000, 0}, {3, 1, -200, 0}, {0, 0, -1, 0}};
        for (int[] s : spoilt) {
            int was = x.row(s[0], s[1]);
            due("32 what it was", x.spoil(s[0], s[1], s[2]), was);
            due("31 spoilt", x.row(s[0], s[1]), s[2]);
            due("33 spoilt " + s[0] + " " + s[1] + " " + s[2], x.check(), s[3]);
            due("32 back", x.spoil(s[0], s[1], was), s[2]);
            due("33 mended", x.check(), 1);
        }
    }

    private static void promise34() {
        WeighCourt x = new WeighCourt();
        x.coins(40, 0, 1, 1);
        due("34 the last coin", x.fix(0, 1L << 39, 1), 1);
        due("34 all", x.fix(5, (1L << 20) - 1, ((1L << 20) - 1) << 20), 1);
        due("34 no such one", x.fix(6, 1, 2), BAD);
        due("34 below", x.fix(-1, 1, 2), BAD);
        long[][] bad = {{1L << 40, 1}, {1, 1L << 40}, {1, 1}, {3, 6}, {3, 4}, {4, 3}, {0, 0}, {1, 0}, {0, 1},
            {-1, 1}, {Long.MIN_VALUE, 1}, {1, Long.MIN_VALUE}};
        for (long[] b : bad) due("34 bad " + b[0] + " " + b[1], x.fix(0, b[0], b[1]), BAD);
        x.coins(3, 0, 1, 1);
        due("34 a coin too many", x.fix(0, 8, 1), BAD);
        due("34 fix", x.fix(0, 4, 1), 1);
        x.balance(0);
        due("34 fixed", x.judge(0, 1), 2);
        x.coins(3, 0, 1, 1);
        due("34 coins() makes all have none", x.judge(0, 1), STATE);
    }

    private static void promise35and36() {
        WeighCourt x = new WeighCourt();
        x.coins(3, 0, 1, 1);
        x.balance(0);
        x.fix(0, 1, 2);
        due("36 none", x.judged(0), STATE);
        due("36 bad ahead of state", x.judged(3), BAD);
        due("35 none fixed", x.judge(0, 2), STATE);
        due("35 alone", x.judge(0, 1), 2);
        int[] first = {0, 3, 2};
        for (int what = 0; what < 3; what++) due("36 " + what, x.judged(what), first[what]);
        due("36 bad", x.judged(-1), BAD);
        x.fix(1, 1, 4);
        due("35 all alone", x.judge(0, 2), 4);
        int[] second = {NONE, 4, 1};
        for (int what = 0; what < 3; what++) due("36 all " + what, x.judged(what), second[what]);
        due("35 bad 0", x.judge(0, 0), BAD);
        due("35 bad 7", x.judge(0, 7), BAD);
        due("35 bad number", x.judge(1, 1), BAD);
        due("35 refused", x.judge(0, 3), STATE);
        due("36 the latest that told", x.judged(1), 4);
        x.balance(0);
        x.take(1);
        due("35 state ahead of no balance", x.judge(1, 6), STATE);
        due("35 no balance", x.judge(1, 1), NO_BALANCE);
        load(x, 0, some(0), some(1));
        x.weigh(0, 0);
        due("35 those left alone count", x.judge(0, 1), 0);
        due("36 both", x.judged(2), 2);
        due("36 one row", x.judged(1), 1);
        x.weigh(0, 3);
        due("35 none left", x.judge(0, 1), 0);
        int[] none = {NONE, 0, 0};
        for (int what = 0; what < 3; what++) due("36 none left " + what, x.judged(what), none[what]);
        x.coins(3, 0, 1, 1);
        due("36 none since coins()", x.judged(0), STATE);
    }

    private static void judgeOnQueue() {
        WeighCourt x = new WeighCourt();
        // Both heavier weigh 2 more: a SCALE tells them from one, a BLUNT one tells them alone.
        x.coins(4, 0, 2, 1);
        x.balance(1);
        x.balance(4);
        x.queue(0, 1, -1);
        x.fix(0, 3, 12);
        x.fix(1, 3, 12);
        due("35 scale", x.judge(0, 1), 2);
        due("36 scale rows", x.judged(1), 5);
        due("36 scale, most have 0", x.judged(2), 5);
        due("35 blunt", x.judge(1, 1), 2);
        due("36 blunt rows", x.judged(1), 3);
        due("35 queue", x.judge(2, 2), 2);
        due("36 queue rows", x.judged(1), 5);
        // Of 4 COINS that weigh 0, 1: the blunt one alone would not tell 1 from 0.
        due("36 none is alike", x.judged(0), 0);
        x.take(1);
        due("35 the taken one's turn does not come", x.judge(2, 1), 2);
        due("35 it comes", x.judge(2, 2), NO_BALANCE);
        due("35 the queue complains", x.complain(2), NO_BALANCE);
        x.coins(6, 0, 3, 3);
        for (int k = 0; k < 6; k++) x.fix(k, 1L << k, 1L << (k + 1) % 6);
        due("35 six scales, without lies", x.judge(0, 6) <= x.count(1) ? 1 : 0, 1);
        due("36 rows", x.judged(1) <= x.count(1) ? 1 : 0, 1);
    }

    private static void promise37() {
        WeighCourt x = new WeighCourt();
        x.coins(4, 1, 1, 3);
        x.lies(1);
        x.balance(0);
        x.balance(5);
        x.balance(1);
        x.take(2);
        load(x, 0, some(0, 1), some(2, 3));
        x.weigh(0, 1);
        x.unpan(1, 0);
        x.unpan(1, 1);
        x.search(0, 50);
        int steps = x.count(7);
        int[] counts = {4, 8, 4, 3, 2, 1, 1, steps, 50, 0, 2};
        for (int what = 0; what < counts.length; what++) due("37 " + what, x.count(what), counts[what]);
        due("37 bad", x.count(11), BAD);
        due("37 bad below", x.count(-1), BAD);
        due("37 bad far", x.count(LOW), BAD);
    }

    private static void promise38() {
        WeighCourt x = new WeighCourt();
        x.coins(2, 1, 1, 1);
        x.lies(1);
        x.balance(5);
        x.balance(3);
        x.balance(1);
        x.queue(0, 1, -1);
        x.take(2);
        load(x, 0, some(0), some(1));
        x.weigh(3, 1);
        x.pan(0, 0, 2);
        x.put(0, 0, 1, 1);
        x.pan(1, 1, 0);
        int[] told = {2, 1, 0, 1, 5, 1, 2, -1, 1, 1, 1, 3, 0, -1, 0, -1, 6, 1};
        long h = 17;
        for (int v : told) h = 31 * h + v;
        due("38 digest", x.digest(), h);
        x.coins(2, 1, 1, 1);
        load(x, 1, some(0), some(1));
        x.weigh(1, 0);
        int[] struck = {2, 1, 0, 0, 5, 1, 2, -1, -1, 1, -1, 3, 1, 1, 0, 1, 1, -1, 6, 1};
        h = 17;
        for (int v : struck) h = 31 * h + v;
        due("38 coarse tells 0 of 1", x.digest(), h);
        x.weigh(1, 1);
        struck[2] = -1;
        struck[3] = -1;
        struck[12] = 2;
        h = 17;
        for (int v : struck) h = 31 * h + v;
        due("38 struck", x.digest(), h);
    }

    private static void promise39() {
        WeighCourt x = new WeighCourt();
        due("39 none", x.status(), 0);
        x.balance(0);
        x.pan(5, 0, 0);
        due("39 refused calls are none", x.status(), 0);
        x.unpan(0, 0);
        due("39 no pan", x.status(), 2);
        x.pan(0, 0, -1);
        due("39 size", x.status(), 5);
        x.at(0, 0, 0);
        due("39 no pan again", x.status(), 2);
        x.pan(0, 0, 0);
        due("39 stays", x.status(), 2);
        x.at(0, 0, 0);
        due("39 beyond", x.status(), 3);
        x.as(0, 1);
        due("39 not that one", x.status(), 4);
        x.balance(0);
        x.complain(1);
        due("39 nought", x.status(), 6);
        x.take(0);
        x.take(0);
        due("39 no balance", x.status(), 1);
        x.coins(3, 0, 1, 1);
        due("39 coins() leaves it", x.status(), 1);
    }
}
