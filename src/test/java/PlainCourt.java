import java.util.ArrayList;
import java.util.Arrays;
import java.util.HashMap;
import java.util.List;
import java.util.Map;

/**
 * The document once more, told as plainly and slowly as can be: maps of whole TRUTHS, recursion,
 * sorting. It shares no way of reckoning with WeighCourt, so that the two can be held together.
 */
final class PlainCourt {
    static final int NONE = -1000, BAD = -1001, STATE = -1002, FULL = -1003;

    // ---- the kinds, each one a class below the one that it is below

    static class Kind {
        int number() { return 0; }
        int tells(Scales s, int d) { s.body(10); return Integer.signum(d); }
        int most(Scales s) { s.body(20); return 1; }
        int cost(Scales s) { s.body(30); return 1 + s.coinsOn() / 2; }
        int sure(Scales s) { s.body(40); return 1; }
    }

    static class ScaleKind extends Kind {
        @Override int number() { return 1; }
        @Override int tells(Scales s, int d) { s.body(11); return d; }
        @Override int most(Scales s) { s.body(21); return super.most(s) + 2; }
    }

    static class CoarseKind extends ScaleKind {
        @Override int number() { return 2; }
        @Override int tells(Scales s, int d) { s.body(12); return super.tells(s, d) / 2; }
        @Override int most(Scales s) { s.body(22); return super.most(s) / 2; }
    }

    static class WornKind extends CoarseKind {
        @Override int number() { return 3; }
        @Override int cost(Scales s) { s.body(33); return 3 * super.cost(s) + s.used; }
    }

    static class BluntKind extends Kind {
        @Override int number() { return 4; }
        @Override int tells(Scales s, int d) { s.body(14); return Math.abs(d) <= 1 ? 0 : super.tells(s, d); }
    }

    static class LyingKind extends Kind {
        @Override int number() { return 5; }
        @Override int cost(Scales s) { s.body(35); return super.cost(s) / 2; }
        @Override int sure(Scales s) { s.body(45); return 0; }
    }

    static class QueueKind extends Kind {
        @Override int number() { return 6; }
        @Override int most(Scales s) {
            s.body(26);
            int most = 0;
            for (Scales each : s.queued) {
                if (each.gone) throw new IllegalStateException("no balance");
                most = Math.max(most, each.kind.most(each));
            }
            return most;
        }
        @Override int cost(Scales s) {
            s.body(36);
            int cost = 0;
            for (Scales each : s.queued) {
                if (each.gone) throw new IllegalStateException("no balance");
                cost += each.kind.cost(each);
            }
            return cost;
        }
    }

    static Kind kindOf(int number) {
        return switch (number) {
            case 0 -> new Kind();
            case 1 -> new ScaleKind();
            case 2 -> new CoarseKind();
            case 3 -> new WornKind();
            case 4 -> new BluntKind();
            case 5 -> new LyingKind();
            default -> new QueueKind();
        };
    }

    static final class Scales {
        final Kind kind;
        final List<Scales> queued = new ArrayList<>();
        final List<Integer> trace;
        final Integer[][] pans = new Integer[2][];
        boolean gone;
        int used;
        int complaint;

        Scales(Kind kind, List<Integer> trace) {
            this.kind = kind;
            this.trace = trace;
        }

        void body(int number) { trace.add(number); }

        int coinsOn() {
            int on = 0;
            for (Integer[] pan : pans) {
                if (pan == null) continue;
                for (int coin : pan) if (coin >= 0) on++;
            }
            return on;
        }

        boolean isQueue() { return kind.number() == 6; }

        Scales atTurn(int k) { return isQueue() ? queued.get(k % queued.size()) : this; }

        int tellsQuietly(int d) {
            List<Integer> before = new ArrayList<>(trace);
            int told = kind.tells(this, d);
            trace.clear();
            trace.addAll(before);
            return told;
        }

        int mostQuietly() {
            List<Integer> before = new ArrayList<>(trace);
            int most = kind.most(this);
            trace.clear();
            trace.addAll(before);
            return most;
        }
    }

    // ---- the state

    int coins;
    int lies;
    List<int[]> truths = new ArrayList<>(List.of(new int[0]));
    /** LIES of each TRUTH; null: STRUCK. */
    List<Integer> theCase = new ArrayList<>(List.of(0));
    final List<List<Integer>> former = new ArrayList<>();
    final List<Scales> scales = new ArrayList<>();
    final List<Integer> trace = new ArrayList<>();
    int status;
    int findings;
    int told;
    final long[][] fixed = new long[6][];
    int[] sentence;
    Hunt hunt;

    int found(int first, int finding) {
        status = finding;
        findings++;
        if (!scales.get(first).gone) scales.get(first).complaint = finding;
        return -1010 - finding;
    }

    boolean noSuch(int b) { return b < 0 || b >= scales.size(); }
    boolean noCoin(int c) { return c < 0 || c >= coins; }
    static boolean noSide(int side) { return side != 0 && side != 1; }

    // ---- coins and truths

    int coins(int n, int least, int most, int kinds) {
        if (n < 1 || n > 40 || least < 0 || least > 3 || most < 0 || most > 3) return BAD;
        if (most > n || least > most || kinds < 1 || kinds > 3) return BAD;
        List<int[]> all = new ArrayList<>();
        makeTruths(new int[n], 0, 0, least, most, kinds, all);
        if (all.size() > 10000) return FULL;
        all.sort(PlainCourt::byOrder);
        coins = n;
        truths = all;
        theCase = new ArrayList<>();
        for (int i = 0; i < all.size(); i++) theCase.add(0);
        former.clear();
        for (Scales each : scales) {
            for (Integer[] pan : each.pans) if (pan != null) Arrays.fill(pan, -1);
        }
        Arrays.fill(fixed, null);
        sentence = null;
        hunt = null;
        return all.size();
    }

    private static void makeTruths(int[] made, int at, int falses, int least, int most, int kinds, List<int[]> all) {
        if (at == made.length) {
            if (falses >= least) all.add(made.clone());
            return;
        }
        makeTruths(made, at + 1, falses, least, most, kinds, all);
        if (falses == most) return;
        for (int sign = 1; sign >= -1; sign -= 2) {
            if (kinds == 1 && sign < 0 || kinds == 2 && sign > 0) continue;
            made[at] = sign;
            makeTruths(made, at + 1, falses + 1, least, most, kinds, all);
            made[at] = 0;
        }
    }

    private static List<Integer> falseOnes(int[] truth) {
        List<Integer> ones = new ArrayList<>();
        for (int i = 0; i < truth.length; i++) if (truth[i] != 0) ones.add(i);
        return ones;
    }

    private static int byOrder(int[] a, int[] b) {
        List<Integer> x = falseOnes(a);
        List<Integer> y = falseOnes(b);
        if (x.size() != y.size()) return x.size() - y.size();
        for (int i = 0; i < x.size(); i++) {
            if (!x.get(i).equals(y.get(i))) return x.get(i) - y.get(i);
        }
        for (int i : x) if (a[i] != b[i]) return b[i] - a[i];
        return 0;
    }

    int lies(int n) {
        if (n < 0 || n > 3) return BAD;
        if (!former.isEmpty()) return STATE;
        int was = lies;
        lies = n;
        hunt = null;
        return was;
    }

    int truth(int t, int coin) {
        if (t < 0 || t >= truths.size() || noCoin(coin)) return BAD;
        return truths.get(t)[coin];
    }

    int lied(int t) {
        if (t < 0 || t >= truths.size()) return BAD;
        return theCase.get(t) == null ? NONE : theCase.get(t);
    }

    int alike(int a, int b) {
        if (noCoin(a) || noCoin(b)) return BAD;
        Map<String, Integer> of = new HashMap<>();
        for (int t = 0; t < truths.size(); t++) {
            if (theCase.get(t) != null) of.put(Arrays.toString(truths.get(t)), theCase.get(t));
        }
        return same(of, a, b) ? 1 : 0;
    }

    private boolean same(Map<String, Integer> of, int a, int b) {
        for (int t = 0; t < truths.size(); t++) {
            int[] swapped = truths.get(t).clone();
            swapped[a] = truths.get(t)[b];
            swapped[b] = truths.get(t)[a];
            Integer here = of.get(Arrays.toString(truths.get(t)));
            Integer there = of.get(Arrays.toString(swapped));
            if (here == null ? there != null : !here.equals(there)) return false;
        }
        return true;
    }

    // ---- balances

    int balance(int kind) {
        if (kind < 0 || kind > 5) return BAD;
        if (scales.size() == 12) return FULL;
        scales.add(new Scales(kindOf(kind), trace));
        return scales.size() - 1;
    }

    int queue(int a, int b, int c) {
        if (noSuch(a) || noSuch(b) || c != -1 && noSuch(c)) return BAD;
        if (scales.size() == 12) return FULL;
        Scales made = new Scales(kindOf(6), trace);
        made.queued.add(scales.get(a));
        made.queued.add(scales.get(b));
        if (c != -1) made.queued.add(scales.get(c));
        if (made.queued.stream().anyMatch(s -> s.gone)) return found(a, 1);
        if (made.queued.stream().anyMatch(Scales::isQueue)) return found(a, 4);
        scales.add(made);
        return scales.size() - 1;
    }

    int take(int b) {
        if (noSuch(b)) return BAD;
        if (scales.get(b).gone) return found(b, 1);
        scales.get(b).gone = true;
        hunt = null;
        return scales.get(b).kind.number();
    }

    int pan(int b, int side, int n) {
        if (noSuch(b) || noSide(side) || n > 20) return BAD;
        Scales s = scales.get(b);
        if (s.gone) return found(b, 1);
        if (s.isQueue()) return found(b, 4);
        if (n < 0) return found(b, 5);
        s.pans[side] = new Integer[n];
        Arrays.fill(s.pans[side], -1);
        return 1;
    }

    int unpan(int b, int side) {
        if (noSuch(b) || noSide(side)) return BAD;
        Scales s = scales.get(b);
        if (s.gone) return found(b, 1);
        if (s.isQueue()) return found(b, 4);
        if (s.pans[side] == null) return found(b, 2);
        int had = s.pans[side].length;
        s.pans[side] = null;
        return had;
    }

    int put(int b, int side, int place, int coin) {
        if (noSuch(b) || noSide(side) || coin != -1 && noCoin(coin)) return BAD;
        int was = at(b, side, place);
        if (was > NONE) scales.get(b).pans[side][place] = coin;
        return was;
    }

    int at(int b, int side, int place) {
        if (noSuch(b) || noSide(side)) return BAD;
        Scales s = scales.get(b);
        if (s.gone) return found(b, 1);
        if (s.isQueue()) return found(b, 4);
        if (s.pans[side] == null) return found(b, 2);
        if (place < 0 || place >= s.pans[side].length) return found(b, 3);
        return s.pans[side][place];
    }

    int copy(int b, int side, int from, int c, int to, int n) {
        if (noSuch(b) || noSuch(c) || noSide(side)) return BAD;
        Scales x = scales.get(b);
        Scales y = scales.get(c);
        if (x.gone || y.gone) return found(b, 1);
        if (x.isQueue() || y.isQueue()) return found(b, 4);
        if (x.pans[side] == null || y.pans[side] == null) return found(b, 2);
        if (n < 0 || from < 0 || to < 0) return found(b, 3);
        if ((long) from + n > x.pans[side].length || (long) to + n > y.pans[side].length) return found(b, 3);
        Integer[] ahead = x.pans[side].clone();
        for (int i = 0; i < n; i++) y.pans[side][to + i] = ahead[from + i];
        return n;
    }

    int complain(int b) {
        if (noSuch(b)) return BAD;
        if (scales.get(b).gone) return found(b, 1);
        return found(b, scales.get(b).complaint == 0 ? 6 : scales.get(b).complaint);
    }

    int is(int b, int kind) {
        if (noSuch(b) || kind < 0 || kind > 6) return BAD;
        if (scales.get(b).gone) return found(b, 1);
        int own = scales.get(b).kind.number();
        if (own == 6 || kind == 6) return own == kind ? 1 : 0;
        return kindOf(kind).getClass().isInstance(scales.get(b).kind) ? 1 : 0;
    }

    int as(int b, int kind) {
        int is = is(b, kind);
        return is == 0 ? found(b, 4) : is;
    }

    int wish(int b, int what, int d) {
        if (noSuch(b) || what < 0 || what > 4 || what == 0 && (d < -3 || d > 3)) return BAD;
        trace.clear();
        Scales s = scales.get(b);
        if (s.gone) return found(b, 1);
        if (what == 0 && s.isQueue()) return found(b, 4);
        try {
            return switch (what) {
                case 0 -> s.kind.tells(s, d);
                case 1 -> s.kind.most(s);
                case 2 -> s.kind.cost(s);
                case 3 -> s.kind.sure(s);
                default -> s.used;
            };
        } catch (IllegalStateException e) {
            return found(b, 1);
        }
    }

    int trace(int i) {
        return i < 0 || i >= Math.min(6, trace.size()) ? NONE : trace.get(i);
    }

    // ---- weighings

    private static int difference(int[] truth, List<Integer> left, List<Integer> right) {
        int d = 0;
        for (int c : left) d += truth[c];
        for (int c : right) d -= truth[c];
        return d;
    }

    /** LIES behind the OUTCOME; null: STRUCK. */
    private Integer behind(Scales by, int d, int outcome, Integer had) {
        if (had == null) return null;
        if (by.tellsQuietly(d) == outcome) return had;
        boolean lie = by.kind instanceof LyingKind && Math.abs(outcome) <= 1 && had < lies;
        return lie ? Integer.valueOf(had + 1) : null;
    }

    private int left(List<Integer> aCase) {
        int left = 0;
        for (Integer each : aCase) if (each != null) left++;
        return left;
    }

    private static List<Integer> coinsOn(Integer[] pan) {
        List<Integer> on = new ArrayList<>();
        for (int c : pan) if (c >= 0) on.add(c);
        return on;
    }

    private int refusal(int b, int outcome) {
        if (noSuch(b) || outcome < -3 || outcome > 3) return BAD;
        if (coins == 0) return STATE;
        if (scales.get(b).gone) return found(b, 1);
        Scales by = scales.get(b).atTurn(former.size());
        if (by.gone) return found(b, 1);
        if (by.pans[0] == null || by.pans[1] == null) return found(b, 2);
        List<Integer> all = coinsOn(by.pans[0]);
        int lefts = all.size();
        all.addAll(coinsOn(by.pans[1]));
        if (all.isEmpty() || 2 * lefts != all.size()) return STATE;
        return all.stream().distinct().count() == all.size() ? 0 : STATE;
    }

    private List<Integer> caseBehind(int b, int outcome) {
        Scales by = scales.get(b).atTurn(former.size());
        List<Integer> next = new ArrayList<>();
        for (int t = 0; t < truths.size(); t++) {
            int d = difference(truths.get(t), coinsOn(by.pans[0]), coinsOn(by.pans[1]));
            next.add(behind(by, d, outcome, theCase.get(t)));
        }
        return next;
    }

    int weigh(int b, int outcome) {
        int refusal = refusal(b, outcome);
        if (refusal != 0) return refusal;
        if (former.size() >= 30) return FULL;
        List<Integer> next = caseBehind(b, outcome);
        Scales by = scales.get(b).atTurn(former.size());
        by.used++;
        if (scales.get(b).isQueue()) scales.get(b).used++;
        former.add(theCase);
        theCase = next;
        hunt = null;
        return left(theCase);
    }

    int parts(int b, int outcome) {
        int refusal = refusal(b, outcome);
        return refusal != 0 ? refusal : left(caseBehind(b, outcome));
    }

    int undo() {
        if (former.isEmpty()) return STATE;
        theCase = former.remove(former.size() - 1);
        hunt = null;
        return left(theCase);
    }

    // ---- the least number

    record Weighing(List<Integer> left, List<Integer> right) { }

    static final class Branch {
        Map<Integer, Integer> aCase;
        int depth;
        Weighing weighing;
        final Map<Integer, Branch> next = new HashMap<>();
    }

    static final class TooLong extends RuntimeException {
        private static final long serialVersionUID = 1;
    }

    /** A whole SEARCH at once; how many of its STEPS were told says how much of it is known. */
    final class Hunt {
        final Scales on;
        final int turn;
        final int most;
        final Map<Integer, Integer> start = new HashMap<>();
        int steps;
        int known;
        int least = NONE;
        boolean endless;
        List<Branch> nodes = new ArrayList<>();
        boolean rowsAsked;
        List<int[]> rows = new ArrayList<>();
        private int cursor;

        Hunt(Scales on) {
            this.on = on;
            turn = former.size();
            most = on.mostQuietly();
            for (int t = 0; t < truths.size(); t++) if (theCase.get(t) != null) start.put(t, theCase.get(t));
            try {
                for (int n = 0; n <= 6 && least == NONE; n++) {
                    Branch root = can(start, turn, n, 0);
                    if (root == null) continue;
                    least = n;
                    number(root);
                }
            } catch (TooLong e) {
                endless = true;
            }
        }

        boolean over() { return !endless && known >= steps; }
        boolean hasTree() { return over() && least != NONE; }

        private void step() {
            if (++steps > 30000) throw new TooLong();
        }

        private void number(Branch branch) {
            nodes.add(branch);
            for (int o = -3; o <= 3; o++) {
                if (branch.next.containsKey(o) && !branch.next.get(o).aCase.isEmpty()) number(branch.next.get(o));
            }
        }

        boolean hopeless(Map<Integer, Integer> aCase, int n) {
            return n == 0 || aCase.size() > Math.pow(2 * most + 1, n);
        }

        /** null: no. */
        private Branch can(Map<Integer, Integer> aCase, int k, int n, int depth) {
            step();
            Branch branch = new Branch();
            branch.aCase = aCase;
            branch.depth = depth;
            if (aCase.size() <= 1) return branch;
            if (hopeless(aCase, n)) return null;
            int reach = on.atTurn(k).mostQuietly();
            for (Weighing weighing : weighings(aCase)) {
                step();
                branch.weighing = weighing;
                branch.next.clear();
                boolean yes = true;
                for (int o = -reach; o <= reach && yes; o++) {
                    Branch next = can(after(aCase, k, weighing, o), k + 1, n - 1, depth + 1);
                    branch.next.put(o, next);
                    yes = next != null;
                }
                if (yes) return branch;
            }
            return null;
        }

        /** The answer of CAN alone, for ROWS. */
        private boolean may(Map<Integer, Integer> aCase, int k, int n) {
            int before = steps;
            steps = -1000000;
            boolean yes = can(aCase, k, n, 0) != null;
            steps = before;
            return yes;
        }

        Map<Integer, Integer> after(Map<Integer, Integer> aCase, int k, Weighing w, int outcome) {
            Map<Integer, Integer> next = new HashMap<>();
            for (Map.Entry<Integer, Integer> each : aCase.entrySet()) {
                int d = difference(truths.get(each.getKey()), w.left, w.right);
                Integer lied = behind(on.atTurn(k), d, outcome, each.getValue());
                if (lied != null) next.put(each.getKey(), lied);
            }
            return next;
        }

        private boolean same(Map<Integer, Integer> aCase, int a, int b) {
            Map<List<Integer>, Integer> of = new HashMap<>();
            Map<List<Integer>, Integer> exchanged = new HashMap<>();
            for (Map.Entry<Integer, Integer> each : aCase.entrySet()) {
                List<Integer> truth = new ArrayList<>();
                for (int weight : truths.get(each.getKey())) truth.add(weight);
                of.put(List.copyOf(truth), each.getValue());
                int kept = truth.get(a);
                truth.set(a, truth.get(b));
                truth.set(b, kept);
                exchanged.put(truth, each.getValue());
            }
            return of.equals(exchanged);
        }

        List<Weighing> weighings(Map<Integer, Integer> aCase) {
            List<List<Integer>> groups = new ArrayList<>();
            for (int c = 0; c < coins; c++) {
                boolean placed = false;
                for (List<Integer> group : groups) {
                    if (!placed && same(aCase, group.get(0), c)) {
                        group.add(c);
                        placed = true;
                    }
                }
                if (!placed) groups.add(new ArrayList<>(List.of(c)));
            }
            List<int[]> ways = new ArrayList<>();
            spread(groups, 0, new int[2 * groups.size()], ways);
            ways.sort((x, y) -> {
                int size = Integer.compare(lefts(x), lefts(y));
                return size != 0 ? size : -Arrays.compare(x, y);
            });
            List<Weighing> all = new ArrayList<>();
            for (int[] way : ways) {
                List<Integer> left = new ArrayList<>();
                List<Integer> right = new ArrayList<>();
                for (int g = 0; g < groups.size(); g++) {
                    left.addAll(groups.get(g).subList(0, way[2 * g]));
                    right.addAll(groups.get(g).subList(way[2 * g], way[2 * g] + way[2 * g + 1]));
                }
                left.sort(null);
                right.sort(null);
                all.add(new Weighing(left, right));
            }
            return all;
        }

        private int lefts(int[] way) {
            int sum = 0;
            for (int i = 0; i < way.length; i += 2) sum += way[i];
            return sum;
        }

        private void spread(List<List<Integer>> groups, int g, int[] way, List<int[]> ways) {
            if (g == groups.size()) {
                int lefts = lefts(way);
                if (lefts > 0 && 2 * lefts == Arrays.stream(way).sum()) ways.add(way.clone());
                return;
            }
            int size = groups.get(g).size();
            for (int l = 0; l <= size; l++) {
                for (int r = 0; l + r <= size; r++) {
                    way[2 * g] = l;
                    way[2 * g + 1] = r;
                    spread(groups, g + 1, way, ways);
                }
            }
            way[2 * g] = 0;
            way[2 * g + 1] = 0;
        }

        void makeRows(Map<Integer, Integer> aCase, int k, int n) {
            if (rows.size() > 600) return;
            if (hopeless(aCase, n)) {
                rows.add(new int[] {-1, aCase.size()});
                return;
            }
            int number = 0;
            for (Weighing weighing : weighings(aCase)) {
                int reach = on.atTurn(k).mostQuietly();
                for (int o = -reach; o <= reach; o++) {
                    Map<Integer, Integer> next = after(aCase, k, weighing, o);
                    if (may(next, k + 1, n - 1)) continue;
                    rows.add(new int[] {number, o});
                    makeRows(next, k + 1, n - 1);
                    break;
                }
                number++;
            }
        }

        boolean rowsHold() {
            cursor = 0;
            return holds(start, turn, least - 1) && cursor == rows.size();
        }

        private boolean holds(Map<Integer, Integer> aCase, int k, int n) {
            if (aCase.size() < 2) return false;
            if (hopeless(aCase, n)) {
                if (cursor == rows.size()) return false;
                int[] row = rows.get(cursor++);
                return row[0] == -1 && row[1] == aCase.size();
            }
            int reach = on.atTurn(k).mostQuietly();
            int number = 0;
            for (Weighing weighing : weighings(aCase)) {
                if (cursor == rows.size()) return false;
                int[] row = rows.get(cursor++);
                if (row[0] != number++ || row[1] < -reach || row[1] > reach) return false;
                if (!holds(after(aCase, k, weighing, row[1]), k + 1, n - 1)) return false;
            }
            return true;
        }
    }

    int search(int b, int steps) {
        if (noSuch(b) || steps < 1 || steps > 10000) return BAD;
        if (coins == 0 || coins > 12 || left(theCase) == 0 || left(theCase) > 60) return STATE;
        if (told + steps > 30000) return FULL;
        Scales s = scales.get(b);
        if (s.gone || s.queued.stream().anyMatch(q -> q.gone)) return found(b, 1);
        told += steps;
        hunt = new Hunt(s);
        hunt.known = steps;
        return hunt.over() ? 1 : 0;
    }

    int goOn(int steps) {
        if (steps < 1 || steps > 10000) return BAD;
        if (hunt == null || hunt.over()) return STATE;
        if (told + steps > 30000) return FULL;
        told += steps;
        hunt.known += steps;
        return hunt.over() ? 1 : 0;
    }

    int least() { return hunt != null && hunt.over() ? hunt.least : STATE; }

    int tree() { return hunt != null && hunt.hasTree() ? hunt.nodes.size() : STATE; }

    int node(int i, int what) {
        if (hunt == null || !hunt.hasTree() || i < 0 || i >= hunt.nodes.size() || what < 0 || what > 10) return BAD;
        Branch branch = hunt.nodes.get(i);
        boolean verdict = branch.aCase.size() == 1;
        if (what == 0) return verdict ? 0 : branch.weighing.left.size();
        if (what == 1) return verdict ? branch.aCase.keySet().iterator().next() : NONE;
        if (what == 2) return branch.aCase.size();
        if (what == 3) return branch.depth;
        int next = hunt.nodes.indexOf(branch.next.get(what - 7));
        return next < 0 ? NONE : next;
    }

    int nodeCoin(int i, int side, int k) {
        if (hunt == null || !hunt.hasTree() || i < 0 || i >= hunt.nodes.size() || noSide(side)) return BAD;
        Weighing weighing = hunt.nodes.get(i).weighing;
        if (weighing == null || k < 0 || k >= weighing.left.size()) return BAD;
        return (side == 0 ? weighing.left : weighing.right).get(k);
    }

    int walk(int t) {
        if (t < 0 || t >= truths.size() || theCase.get(t) == null) return BAD;
        if (hunt == null || !hunt.hasTree()) return STATE;
        Branch branch = hunt.nodes.get(0);
        while (branch.weighing != null) {
            int d = difference(truths.get(t), branch.weighing.left, branch.weighing.right);
            branch = branch.next.get(hunt.on.atTurn(hunt.turn + branch.depth).tellsQuietly(d));
        }
        return hunt.nodes.indexOf(branch);
    }

    // ---- why fewer don't do

    int prove() {
        if (hunt == null || !hunt.hasTree() || hunt.least == 0 || hunt.rowsAsked) return STATE;
        hunt.rowsAsked = true;
        hunt.makeRows(hunt.start, hunt.turn, hunt.least - 1);
        if (hunt.rows.size() > 600) {
            hunt.rows.clear();
            return FULL;
        }
        return hunt.rows.size();
    }

    int rows() { return hunt == null ? 0 : hunt.rows.size(); }

    int row(int i, int what) {
        if (i < 0 || i >= rows() || what < 0 || what > 1) return BAD;
        return hunt.rows.get(i)[what];
    }

    int spoil(int i, int what, int v) {
        if (i < 0 || i >= rows() || what < 0 || what > 1 || v < -200 || v > 20000) return BAD;
        int was = hunt.rows.get(i)[what];
        hunt.rows.get(i)[what] = v;
        return was;
    }

    int check() { return rows() == 0 ? STATE : hunt.rowsHold() ? 1 : 0; }

    // ---- told ahead

    int fix(int k, long left, long right) {
        if (k < 0 || k > 5) return BAD;
        int lefts = 0;
        int rights = 0;
        for (int bit = 0; bit < 64; bit++) {
            boolean l = (left >> bit & 1) == 1;
            boolean r = (right >> bit & 1) == 1;
            if (l && r || (l || r) && bit >= coins) return BAD;
            if (l) lefts++;
            if (r) rights++;
        }
        if (lefts == 0 || lefts != rights) return BAD;
        fixed[k] = new long[] {left, right};
        return 1;
    }

    int judge(int b, int n) {
        if (noSuch(b) || n < 1 || n > 6) return BAD;
        for (int i = 0; i < n; i++) if (fixed[i] == null) return STATE;
        if (scales.get(b).gone) return found(b, 1);
        for (int i = 0; i < n; i++) if (scales.get(b).atTurn(i).gone) return found(b, 1);
        Map<List<Integer>, List<Integer>> byRow = new HashMap<>();
        for (int t = 0; t < truths.size(); t++) {
            if (theCase.get(t) == null) continue;
            List<Integer> row = new ArrayList<>();
            for (int i = 0; i < n; i++) {
                int d = 0;
                for (int c = 0; c < coins; c++) {
                    if ((fixed[i][0] >> c & 1) == 1) d += truths.get(t)[c];
                    if ((fixed[i][1] >> c & 1) == 1) d -= truths.get(t)[c];
                }
                row.add(scales.get(b).atTurn(i).tellsQuietly(d));
            }
            byRow.computeIfAbsent(row, r -> new ArrayList<>()).add(t);
        }
        int alone = 0;
        int crowd = 0;
        int first = Integer.MAX_VALUE;
        for (List<Integer> with : byRow.values()) {
            crowd = Math.max(crowd, with.size());
            if (with.size() == 1) alone++;
            else first = Math.min(first, with.get(0));
        }
        sentence = new int[] {first == Integer.MAX_VALUE ? NONE : first, byRow.size(), crowd};
        return alone;
    }

    int judged(int what) {
        if (what < 0 || what > 2) return BAD;
        return sentence == null ? STATE : sentence[what];
    }

    // ---- what is told

    int count(int what) {
        return switch (what) {
            case 0 -> coins;
            case 1 -> truths.size();
            case 2 -> left(theCase);
            case 3 -> scales.size();
            case 4 -> (int) scales.stream().filter(s -> !s.gone).count();
            case 5 -> former.size();
            case 6 -> lies;
            case 7 -> hunt == null ? 0 : Math.min(hunt.known, hunt.endless ? Integer.MAX_VALUE : hunt.steps);
            case 8 -> told;
            case 9 -> rows();
            case 10 -> findings;
            default -> BAD;
        };
    }

    long digest() {
        List<Integer> all = new ArrayList<>(List.of(coins, lies));
        for (Integer each : theCase) all.add(each == null ? -1 : each);
        for (Scales s : scales) {
            all.add(s.gone ? -1 : s.kind.number());
            if (s.gone) continue;
            all.add(s.used);
            if (s.isQueue()) continue;
            for (Integer[] pan : s.pans) {
                all.add(pan == null ? -1 : pan.length);
                if (pan != null) all.addAll(Arrays.asList(pan));
            }
        }
        long h = 17;
        for (int v : all) h = 31 * h + v;
        return h;
    }

    int status() { return status; }
}
