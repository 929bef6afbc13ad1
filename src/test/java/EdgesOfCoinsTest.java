/** Promises 1 to 6, and the document's part 1 COINS: one test for each sentence that names a boundary case. */
public final class EdgesOfCoinsTest extends Edges {
    public static void main(String[] args) {
        newObject();
        manyCalls();
        howManyCoins();
        howManyFalse();
        howManyTruths();
        coinsAnew();
        lies();
        truthsInOrder();
        truth();
        lied();
        alike();
        done(1, 6);
    }

    private static void newObject() {
        edge(1, "No COINS (one TRUTH: none is FALSE)", () -> {
            WeighCourt x = new WeighCourt();
            due(x.count(0), 0);
            due(x.count(1), 1);
            due(x.count(2), 1);
            due(x.lied(0), 0);
            due(x.lied(1), BAD);
            due(x.truth(0, 0), BAD);
            due(x.alike(0, 0), BAD);
        });
        edge(1, "no BALANCES", () -> {
            WeighCourt x = new WeighCourt();
            due(x.count(3), 0);
            due(x.count(4), 0);
            due(x.take(0), BAD);
            due(x.balance(0), 0);
        });
        edge(1, "LIES 0", () -> {
            due(new WeighCourt().count(6), 0);
            due(new WeighCourt().lies(3), 0);
        });
        edge(1, "no FIXED WEIGHINGS", () -> {
            for (int n = 1; n <= 6; n++) {
                WeighCourt x = new WeighCourt();
                x.balance(0);
                due(x.judge(0, n), STATE);
            }
        });
    }

    private static void manyCalls() {
        edge(1, "An object is used for at most 512 calls after it has been made", () -> {
            WeighCourt x = new WeighCourt();
            for (int i = 0; i < 512; i++) due(x.coins(20, 0, 3, 3), 9921);
            WeighCourt y = court(2, 1, 1, 1, 0);
            load(y, 0, some(0), some(1));
            // 6 calls are made so far, 2 are made behind these.
            for (int i = 0; i < 252; i++) {
                due(y.weigh(0, 1), 1);
                due(y.undo(), 2);
            }
            due(y.wish(0, 4, 0), 252);
            due(y.count(5), 0);
            WeighCourt z = court(2, 1, 1, 1, 0);
            for (int i = 0; i < 509; i++) due(z.unpan(0, 0), NO_PAN);
            due(z.count(10), 509);
        });
    }

    private static void howManyCoins() {
        edge(2, "A court of n COINS (1 to 40)", () -> {
            for (int n : some(LOW, -1, 0, 41, 42, HIGH)) refused(x -> x.coins(n, 0, 0, 1), BAD);
            for (int n : some(1, 2, 39, 40)) {
                WeighCourt x = new WeighCourt();
                due(x.coins(n, 0, 1, 1), n + 1);
                due(x.count(0), n);
                due(x.truth(n, n - 1), 1);
                due(x.truth(n, n), BAD);
            }
        });
        edge(2, "KINDS not 1 to 3", () -> {
            for (int kinds : some(LOW, -1, 0, 4, 5, HIGH)) refused(x -> x.coins(3, 0, 1, kinds), BAD);
            due(new WeighCourt().coins(3, 0, 1, 1), 4);
            due(new WeighCourt().coins(3, 0, 1, 2), 4);
            due(new WeighCourt().coins(3, 0, 1, 3), 7);
        });
    }

    private static void howManyFalse() {
        edge(2, "least, most not as told", () -> {
            for (int least : some(LOW, -1)) refused(x -> x.coins(5, least, 1, 1), BAD);
            for (int most : some(4, 5, HIGH)) refused(x -> x.coins(5, 0, most, 1), BAD);
            refused(x -> x.coins(5, 4, 4, 1), BAD);
            refused(x -> x.coins(5, -1, -1, 1), BAD);
            due(new WeighCourt().coins(5, 0, 0, 1), 1);
            due(new WeighCourt().coins(5, 3, 3, 1), 10);
            due(new WeighCourt().coins(5, 0, 3, 1), 26);
        });
        edge(2, "most above n", () -> {
            due(new WeighCourt().coins(1, 0, 1, 1), 2);
            refused(x -> x.coins(1, 0, 2, 1), BAD);
            due(new WeighCourt().coins(2, 0, 2, 1), 4);
            refused(x -> x.coins(2, 0, 3, 1), BAD);
            refused(x -> x.coins(2, 3, 3, 1), BAD);
            due(new WeighCourt().coins(3, 0, 3, 1), 8);
        });
        edge(2, "least above most", () -> {
            for (int most = 0; most <= 3; most++) {
                int[] sets = {1, 5, 10, 10};
                int same = most;
                due(new WeighCourt().coins(5, same, same, 1), sets[most]);
                refused(x -> x.coins(5, same + 1, same, 1), BAD);
            }
            refused(x -> x.coins(5, HIGH, 3, 1), BAD);
            refused(x -> x.coins(5, 0, LOW, 1), BAD);
        });
    }

    private static void howManyTruths() {
        edge(2, "FULL: there would be more than 10000", () -> {
            // No CHARGE has just 10000: 9921 is the nearest one below, 10640 the nearest above.
            due(new WeighCourt().coins(20, 0, 3, 3), 9921);
            due(new WeighCourt().coins(39, 0, 3, 1), 9920);
            due(new WeighCourt().coins(40, 3, 3, 2), 9880);
            refused(x -> x.coins(21, 3, 3, 3), FULL);
            refused(x -> x.coins(40, 2, 3, 1), FULL);
            refused(x -> x.coins(40, 0, 3, 2), FULL);
            refused(x -> x.coins(40, 0, 3, 3), FULL);
        });
        edge(2, "Refusals are answers, the first of these that fits", () -> {
            refused(x -> x.coins(41, 0, 3, 3), BAD);
            refused(x -> x.coins(40, 0, 3, 0), BAD);
            refused(x -> x.coins(40, -1, 3, 3), BAD);
            refused(x -> x.coins(40, 0, 4, 3), BAD);
        });
        edge(2, "how many TRUTHS", () -> {
            // 0, 1, 2 or 3 of 4 FALSE: 1, 4, 6, 4 sets, each with 1, 2, 4, 8 ways if both KINDS may be.
            int[][] charges = {{0, 0, 1, 1}, {0, 1, 1, 5}, {1, 1, 3, 8}, {0, 2, 2, 11}, {2, 2, 3, 24}, {0, 2, 3, 33},
                {3, 3, 3, 32}, {1, 3, 3, 64}, {0, 3, 3, 65}, {0, 3, 1, 15}};
            for (int[] c : charges) {
                WeighCourt x = new WeighCourt();
                due(x.coins(4, c[0], c[1], c[2]), c[3]);
                due(x.count(1), c[3]);
                due(x.lied(c[3] - 1), 0);
                due(x.lied(c[3]), BAD);
            }
        });
    }

    /** TRUTHS 0 and 1 have a LIE each, TRUTH 2 is STRUCK. */
    private static WeighCourt weighed() {
        WeighCourt x = court(3, 1, 1, 1, 5, 0);
        x.lies(1);
        load(x, 0, some(0), some(1));
        x.weigh(0, 1);
        x.weigh(0, -1);
        return x;
    }

    private static void coinsAnew() {
        edge(2, "all are LEFT, without LIES", () -> {
            WeighCourt x = weighed();
            due(x.lied(0), 1);
            due(x.lied(2), NONE);
            due(x.coins(3, 1, 1, 1), 3);
            for (int t = 0; t < 3; t++) due(x.lied(t), 0);
            due(x.count(2), 3);
            due(x.count(5), 0);
        });
        edge(2, "(what LIES there may be stays)", () -> {
            for (int lies = 0; lies <= 3; lies++) {
                WeighCourt x = new WeighCourt();
                x.lies(lies);
                x.coins(3, 1, 1, 1);
                due(x.count(6), lies);
            }
        });
        edge(2, "coins() takes all COINS off the PANS", () -> {
            WeighCourt x = court(4, 0, 1, 1, 0, 5);
            load(x, 0, some(0, 1), some(2, 3));
            load(x, 1, some(3), some());
            x.unpan(1, 1);
            x.coins(4, 0, 1, 1);
            for (int side = 0; side < 2; side++) {
                for (int place = 0; place < 2; place++) due(x.at(0, side, place), -1);
                due(x.at(0, side, 2), BEYOND);
            }
            due(x.at(1, 0, 0), -1);
            due(x.at(1, 1, 0), NO_PAN);
        });
    }

    private static void lies() {
        edge(3, "LIES become n (0 to 3)", () -> {
            for (int n : some(LOW, -1, 4, HIGH)) refused(EdgesOfCoinsTest::freshWithLies, x -> x.lies(n), BAD);
            for (int n = 0; n <= 3; n++) {
                WeighCourt x = freshWithLies();
                due(x.lies(n), 2);
                due(x.count(6), n);
            }
        });
        edge(3, "STATE: there was a WEIGHING since coins()", () -> {
            refused(EdgesOfCoinsTest::weighed, x -> x.lies(0), STATE);
            refused(EdgesOfCoinsTest::weighed, x -> x.lies(1), STATE);
            WeighCourt x = weighed();
            x.coins(3, 1, 1, 1);
            due(x.lies(3), 1);
        });
        edge(3, "(that was not undone)", () -> {
            WeighCourt x = weighed();
            x.undo();
            due(x.lies(2), STATE);
            x.undo();
            due(x.lies(2), 1);
            due(x.lies(0), 2);
        });
        edge(3, "Refusals are answers, the first of these that fits", () -> {
            refused(EdgesOfCoinsTest::weighed, x -> x.lies(4), BAD);
            refused(EdgesOfCoinsTest::weighed, x -> x.lies(-1), BAD);
        });
    }

    private static WeighCourt freshWithLies() {
        WeighCourt x = new WeighCourt();
        x.lies(2);
        return x;
    }

    /** Of each TRUTH its COINS: + heavier, - lighter, . neither. */
    private static void truthsAre(WeighCourt x, String... truths) {
        due(x.count(1), truths.length);
        for (int t = 0; t < truths.length; t++) {
            for (int c = 0; c < truths[t].length(); c++) {
                int how = truths[t].charAt(c) == '+' ? 1 : truths[t].charAt(c) == '-' ? -1 : 0;
                due(x.truth(t, c), how);
            }
        }
    }

    private static void truthsInOrder() {
        edge(4, "those with fewer FALSE COINS first", () ->
            truthsAre(court(3, 0, 3, 1), "...", "+..", ".+.", "..+", "++.", "+.+", ".++", "+++"));
        edge(4, "of like ones by the first FALSE COIN (the lesser number first), then by the second one, the third one", () ->
            truthsAre(court(5, 3, 3, 2), "---..", "--.-.", "--..-", "-.--.", "-.-.-", "-..--", ".---.", ".--.-", ".-.--",
                "..---"));
        edge(4, "then by how the first one is FALSE (heavier first), then the second one, the third one", () -> {
            truthsAre(court(3, 3, 3, 3), "+++", "++-", "+-+", "+--", "-++", "-+-", "--+", "---");
            truthsAre(court(3, 2, 2, 3), "++.", "+-.", "-+.", "--.", "+.+", "+.-", "-.+", "-.-", ".++", ".+-", ".-+", ".--");
        });
        edge(4, "as its KINDS have it (1 heavier, 2 lighter, 3 both)", () -> {
            truthsAre(court(2, 1, 1, 1), "+.", ".+");
            truthsAre(court(2, 1, 1, 2), "-.", ".-");
            truthsAre(court(2, 1, 1, 3), "+.", "-.", ".+", ".-");
        });
    }

    private static void truth() {
        edge(4, "What a COIN is by a TRUTH: 1 heavier, -1 lighter, 0 neither. BAD.", () -> {
            for (int t : some(LOW, -1, 8, HIGH)) refused(x -> x.truth(t, 0), BAD);
            for (int c : some(LOW, -1, 4, HIGH)) refused(x -> x.truth(0, c), BAD);
            due(rich().truth(0, 0), 1);
            due(rich().truth(0, 3), 0);
            due(rich().truth(7, 3), -1);
            due(rich().truth(7, 0), 0);
        });
        edge(4, "There are 10000 at most", () -> {
            WeighCourt x = court(20, 0, 3, 3);
            for (int c = 17; c < 20; c++) due(x.truth(9920, c), -1);
            due(x.truth(9921, 19), BAD);
            WeighCourt most = court(40, 3, 3, 1);
            for (int c = 37; c < 40; c++) due(most.truth(9879, c), 1);
            due(most.truth(9880, 39), BAD);
        });
    }

    private static void lied() {
        edge(5, "how many LIES it has (0 at first, LIES at most)", () -> {
            for (int lies = 0; lies <= 3; lies++) {
                WeighCourt x = court(2, 1, 1, 1, 5);
                x.lies(lies);
                load(x, 0, some(0), some(1));
                due(x.lied(0), 0);
                for (int i = 1; i <= lies; i++) {
                    x.weigh(0, 0);
                    due(x.lied(0), i);
                    due(x.lied(1), i);
                }
                x.weigh(0, 0);
                due(x.lied(0), NONE);
                due(x.lied(1), NONE);
            }
        });
        edge(5, "NONE: it is STRUCK", () -> {
            for (int t = 0; t < 4; t++) due(rich().lied(t), NONE);
            for (int t = 4; t < 8; t++) due(rich().lied(t), 0);
        });
        edge(5, "LIES that a TRUTH has; NONE: it is STRUCK. BAD.", () -> {
            for (int t : some(LOW, -1, 8, HIGH)) refused(x -> x.lied(t), BAD);
            refused(WeighCourt::new, x -> x.lied(1), BAD);
            due(new WeighCourt().lied(0), 0);
        });
    }

    private static void alike() {
        edge(6, "one with itself: 1", () -> {
            for (int c = 0; c < 4; c++) due(rich().alike(c, c), 1);
        });
        edge(6, "Whether two COINS are ALIKE in THE CASE (1, 0; one with itself: 1). BAD.", () -> {
            for (int c : some(LOW, -1, 4, HIGH)) {
                refused(x -> x.alike(c, 0), BAD);
                refused(x -> x.alike(0, c), BAD);
                refused(x -> x.alike(c, c), BAD);
            }
            due(rich().alike(0, 3), 0);
            due(rich().alike(3, 2), 1);
        });
        edge(6, "each TRUTH with these two exchanged has as many LIES", () -> {
            WeighCourt x = court(4, 1, 1, 1, 5);
            x.lies(3);
            load(x, 0, some(0), some(1));
            x.weigh(0, 0);
            // None is STRUCK; COINS 0 and 1 have a LIE each.
            due(x.count(2), 4);
            due(x.alike(0, 1), 1);
            due(x.alike(2, 3), 1);
            due(x.alike(0, 2), 0);
            due(x.alike(2, 0), 0);
        });
        edge(6, "or is STRUCK, too", () -> {
            WeighCourt x = court(4, 1, 1, 1, 0);
            load(x, 0, some(0), some(1));
            x.weigh(0, 0);
            due(x.alike(0, 1), 1);
            due(x.alike(2, 3), 1);
            due(x.alike(0, 2), 0);
            due(x.alike(3, 1), 0);
            x.weigh(0, 3);
            due(x.count(2), 0);
            due(x.alike(0, 2), 1);
            // One TRUTH LEFT, the first or the last one, is enough.
            for (int outcome = -1; outcome <= 1; outcome += 2) {
                WeighCourt y = court(2, 1, 1, 1, 0);
                load(y, 0, some(0), some(1));
                due(y.weigh(0, outcome), 1);
                due(y.alike(0, 1), 0);
            }
        });
        edge(6, "Two COINS are ALIKE in a CASE, if it stays the same where they are exchanged", () -> {
            // Lighter ones left, heavier ones right are LEFT.
            WeighCourt one = court(4, 1, 1, 3, 0);
            load(one, 0, some(0, 1), some(2, 3));
            due(one.weigh(0, -1), 4);
            due(one.alike(0, 1), 1);
            due(one.alike(2, 3), 1);
            due(one.alike(1, 2), 0);
            // Heavier 0, 3 and lighter 1, 2 are LEFT: 0 heavier, 1 lighter become 1 lighter, 3 heavier.
            WeighCourt two = court(4, 2, 2, 3, 1);
            load(two, 0, some(0, 3), some(1, 2));
            due(two.weigh(0, 2), 6);
            due(two.alike(0, 3), 1);
            due(two.alike(1, 2), 1);
            due(two.alike(0, 1), 0);
            due(two.alike(2, 3), 0);
        });
        edge(6, "if it stays the same where they are exchanged", () -> {
            // Far apart among 9880 TRUTHS are those that the first and the last COIN, exchanged, make of each other.
            WeighCourt x = court(40, 3, 3, 1, 0);
            load(x, 0, some(0), some(39));
            due(x.alike(0, 39), 1);
            x.weigh(0, 1);
            due(x.alike(0, 39), 0);
            due(x.alike(1, 38), 1);
        });
    }
}
