import java.util.Arrays;

/**
 * A court for puzzles of weighing: coins of which a few are false, balances of kinds below one
 * another, and the least number of weighings that finds the truth.
 *
 * Words in capitals are the document's. Refusals are answers; nothing in here throws.
 */
public final class WeighCourt {
    public static final int NONE = -1000, BAD = -1001, STATE = -1002, FULL = -1003;

    private static final int FOUND = -1010;
    private static final int NO_BALANCE = 1, NO_PAN = 2, BEYOND = 3, NOT_THAT_ONE = 4, SIZE = 5, NOUGHT = 6;

    private static final int SCALE = 1, COARSE = 2, WORN = 3, BLUNT = 4, LYING = 5, QUEUE = 6;
    /** The KIND right above each KIND; -1 where there is none. */
    private static final int[] ABOVE = {-1, 0, 1, 2, 0, 0, -1};

    private static final int MOST_COINS = 40, MOST_FALSE = 3, MOST_TRUTHS = 10000, MOST_LIES = 3;
    private static final int BOTH_KINDS = 3, LIGHTER_ONLY = 2;
    private static final int MOST_BALANCES = 12, MOST_PLACES = 20;
    private static final int MOST_WEIGHINGS = 30, MOST_OUTCOME = 3, OUTCOMES = 7;
    private static final int SEARCH_COINS = 12, SEARCH_TRUTHS = 60, DEEPEST = 6;
    private static final int STEPS_A_CALL = 10000, STEPS_IN_ALL = 30000;
    private static final int MOST_ROWS = 600, LEAST_SPOILT = -200, MOST_SPOILT = 20000;
    private static final int FIXED = 6;
    private static final int NOBODY = -1, STRUCK = -1, MISSING = -1;

    private final Truths truths = new Truths();
    private final Balance[] balances = new Balance[MOST_BALANCES];
    private final Trace noted = new Trace();
    private final Search quest = new Search(truths);
    private final Jury jury = new Jury();
    private int came;
    private int mostLies;
    private int stepsTold;
    private int latestFinding;
    private int findings;

    public WeighCourt() {
    }

    // ---- coins and truths

    public int coins(int n, int least, int most, int kinds) {
        if (n < 1 || n > MOST_COINS || kinds < 1 || kinds > BOTH_KINDS) return BAD;
        if (least < 0 || least > most || most > MOST_FALSE || most > n) return BAD;
        if (Truths.howMany(n, least, most, kinds) > MOST_TRUTHS) return FULL;
        truths.charge(n, least, most, kinds);
        for (int b = 0; b < came; b++) balances[b].clear();
        jury.forget();
        quest.end();
        return truths.size;
    }

    public int lies(int n) {
        if (n < 0 || n > MOST_LIES) return BAD;
        if (truths.weighings > 0) return STATE;
        int before = mostLies;
        mostLies = n;
        quest.end();
        return before;
    }

    public int truth(int t, int coin) {
        if (!isTruth(t) || !isCoin(coin)) return BAD;
        return truths.falsehood(t, coin);
    }

    public int lied(int t) {
        if (!isTruth(t)) return BAD;
        return truths.isLeft(t) ? truths.liesOf(t) : NONE;
    }

    public int alike(int a, int b) {
        if (!isCoin(a) || !isCoin(b)) return BAD;
        return truths.exchangeable(a, b) ? 1 : 0;
    }

    // ---- balances

    public int balance(int kind) {
        if (kind < 0 || kind >= QUEUE) return BAD;
        if (came >= MOST_BALANCES) return FULL;
        return keep(new Balance(kind, new Balance[0], noted));
    }

    public int queue(int a, int b, int c) {
        if (!cameWith(a) || !cameWith(b) || c != NOBODY && !cameWith(c)) return BAD;
        if (came >= MOST_BALANCES) return FULL;
        Balance[] members = new Balance[c == NOBODY ? 2 : 3];
        members[0] = balances[a];
        members[1] = balances[b];
        if (c != NOBODY) members[2] = balances[c];
        for (Balance member : members) {
            if (member.taken) return found(a, NO_BALANCE);
        }
        for (Balance member : members) {
            if (member.kind == QUEUE) return found(a, NOT_THAT_ONE);
        }
        return keep(new Balance(QUEUE, members, noted));
    }

    public int take(int b) {
        if (!cameWith(b)) return BAD;
        if (balances[b].taken) return found(b, NO_BALANCE);
        balances[b].taken = true;
        quest.end();
        return balances[b].kind;
    }

    public int pan(int b, int side, int n) {
        if (!cameWith(b) || !isSide(side) || n > MOST_PLACES) return BAD;
        int trouble = withoutPans(balances[b]);
        if (trouble == 0 && n < 0) trouble = SIZE;
        if (trouble != 0) return found(b, trouble);
        balances[b].panOf(side).lay(n);
        return 1;
    }

    public int unpan(int b, int side) {
        if (!cameWith(b) || !isSide(side)) return BAD;
        int trouble = withoutPan(balances[b], side);
        if (trouble != 0) return found(b, trouble);
        Pan pan = balances[b].panOf(side);
        int had = pan.places;
        pan.places = MISSING;
        return had;
    }

    public int put(int b, int side, int place, int coin) {
        if (!cameWith(b) || !isSide(side) || coin != NOBODY && !isCoin(coin)) return BAD;
        int trouble = withoutPlace(balances[b], side, place);
        if (trouble != 0) return found(b, trouble);
        Pan pan = balances[b].panOf(side);
        int before = pan.lying[place];
        pan.lying[place] = coin;
        return before;
    }

    public int at(int b, int side, int place) {
        if (!cameWith(b) || !isSide(side)) return BAD;
        int trouble = withoutPlace(balances[b], side, place);
        if (trouble != 0) return found(b, trouble);
        return balances[b].panOf(side).lying[place];
    }

    public int copy(int b, int side, int from, int c, int to, int n) {
        if (!cameWith(b) || !cameWith(c) || !isSide(side)) return BAD;
        if (balances[b].taken || balances[c].taken) return found(b, NO_BALANCE);
        if (balances[b].kind == QUEUE || balances[c].kind == QUEUE) return found(b, NOT_THAT_ONE);
        Pan source = balances[b].panOf(side);
        Pan target = balances[c].panOf(side);
        if (source.isMissing() || target.isMissing()) return found(b, NO_PAN);
        if (!source.reaches(from, n) || !target.reaches(to, n)) return found(b, BEYOND);
        System.arraycopy(source.lying, from, target.lying, to, n);
        return n;
    }

    public int complain(int b) {
        if (!cameWith(b)) return BAD;
        Balance asked = balances[b];
        if (asked.taken) return found(b, NO_BALANCE);
        return found(b, asked.complaint == 0 ? NOUGHT : asked.complaint);
    }

    public int is(int b, int kind) {
        if (!cameWith(b) || !isKind(kind)) return BAD;
        if (balances[b].taken) return found(b, NO_BALANCE);
        return balances[b].belongsTo(kind) ? 1 : 0;
    }

    public int as(int b, int kind) {
        if (!cameWith(b) || !isKind(kind)) return BAD;
        if (balances[b].taken) return found(b, NO_BALANCE);
        return balances[b].belongsTo(kind) ? 1 : found(b, NOT_THAT_ONE);
    }

    public int wish(int b, int what, int d) {
        if (!cameWith(b) || what < 0 || what > 4) return BAD;
        if (what == 0 && !isOutcome(d)) return BAD;
        noted.clear();
        Balance asked = balances[b];
        if (asked.taken) return found(b, NO_BALANCE);
        if (what == 0 && asked.kind == QUEUE) return found(b, NOT_THAT_ONE);
        noted.open = true;
        int answer = asked.answer(what, d);
        noted.open = false;
        return answer == NONE ? found(b, NO_BALANCE) : answer;
    }

    public int trace(int i) {
        return i >= 0 && i < noted.size ? noted.numbers[i] : NONE;
    }

    // ---- weighings

    public int weigh(int b, int outcome) {
        int refusal = refusalToWeigh(b, outcome);
        if (refusal != 0) return refusal;
        if (truths.weighings >= MOST_WEIGHINGS) return FULL;
        Balance asked = balances[b];
        Balance weigher = asked.weigherAt(truths.weighings);
        truths.judgeBy(weigher, outcome, mostLies);
        weigher.used++;
        if (asked.kind == QUEUE) asked.used++;
        quest.end();
        return truths.left;
    }

    public int parts(int b, int outcome) {
        int refusal = refusalToWeigh(b, outcome);
        if (refusal != 0) return refusal;
        return truths.leftBehind(balances[b].weigherAt(truths.weighings), outcome, mostLies);
    }

    public int undo() {
        if (truths.weighings == 0) return STATE;
        truths.goBack();
        quest.end();
        return truths.left;
    }

    // ---- the least number

    public int search(int b, int steps) {
        if (!cameWith(b) || !areSteps(steps)) return BAD;
        if (truths.coins == 0 || truths.coins > SEARCH_COINS) return STATE;
        if (truths.left == 0 || truths.left > SEARCH_TRUTHS) return STATE;
        if (stepsTold + steps > STEPS_IN_ALL) return FULL;
        if (!balances[b].isWhole(MOST_BALANCES)) return found(b, NO_BALANCE);
        stepsTold += steps;
        quest.begin(balances[b], mostLies);
        quest.runOn(steps);
        return quest.isOver() ? 1 : 0;
    }

    public int goOn(int steps) {
        if (!areSteps(steps)) return BAD;
        if (!quest.isThere() || quest.isOver()) return STATE;
        if (stepsTold + steps > STEPS_IN_ALL) return FULL;
        stepsTold += steps;
        quest.runOn(steps);
        return quest.isOver() ? 1 : 0;
    }

    public int least() {
        return quest.isOver() ? quest.leastFound : STATE;
    }

    public int tree() {
        return quest.hasTree() ? quest.nodes.size : STATE;
    }

    public int node(int i, int what) {
        if (!isNode(i) || what < 0 || what > 10) return BAD;
        return quest.nodes.tell(i, what);
    }

    public int nodeCoin(int i, int side, int k) {
        if (!isNode(i) || !isSide(side) || k < 0 || k >= quest.nodes.coinsOnEach(i)) return BAD;
        return quest.nodes.coinOf(i, side, k);
    }

    public int walk(int t) {
        if (!isTruth(t) || !truths.isLeft(t)) return BAD;
        if (!quest.hasTree()) return STATE;
        return quest.endOf(t);
    }

    // ---- why fewer don't do

    public int prove() {
        if (!quest.hasTree() || quest.leastFound == 0 || quest.rowsAsked) return STATE;
        quest.rowsAsked = true;
        return quest.rowsShown() > 0 ? quest.rowsShown() : FULL;
    }

    public int row(int i, int what) {
        if (!isRow(i) || what < 0 || what > 1) return BAD;
        return what == 0 ? quest.whole.number[i] : quest.whole.told[i];
    }

    public int spoil(int i, int what, int v) {
        if (!isRow(i) || what < 0 || what > 1 || v < LEAST_SPOILT || v > MOST_SPOILT) return BAD;
        int[] column = what == 0 ? quest.whole.number : quest.whole.told;
        int before = column[i];
        column[i] = v;
        return before;
    }

    public int check() {
        if (quest.rowsShown() == 0) return STATE;
        return quest.rowsHold() ? 1 : 0;
    }

    // ---- told ahead

    public int fix(int k, long left, long right) {
        if (k < 0 || k >= FIXED) return BAD;
        long all = (1L << truths.coins) - 1;
        if (((left | right) & ~all) != 0 || (left & right) != 0) return BAD;
        if (left == 0 || Long.bitCount(left) != Long.bitCount(right)) return BAD;
        jury.left[k] = left;
        jury.right[k] = right;
        return 1;
    }

    public int judge(int b, int n) {
        if (!cameWith(b) || n < 1 || n > FIXED) return BAD;
        if (!jury.hasAll(n)) return STATE;
        if (!balances[b].isWhole(n)) return found(b, NO_BALANCE);
        return jury.sentence(truths, balances[b], n);
    }

    public int judged(int what) {
        if (what < 0 || what > 2) return BAD;
        if (!jury.sentenced) return STATE;
        if (what == 0) return jury.leastShared;
        return what == 1 ? jury.unlikeRows : jury.crowd;
    }

    // ---- what is told

    public int count(int what) {
        switch (what) {
            case 0: return truths.coins;
            case 1: return truths.size;
            case 2: return truths.left;
            case 3: return came;
            case 4: return balancesThere();
            case 5: return truths.weighings;
            case 6: return mostLies;
            case 7: return quest.isThere() ? quest.steps : 0;
            case 8: return stepsTold;
            case 9: return quest.rowsShown();
            case 10: return findings;
            default: return BAD;
        }
    }

    public long digest() {
        long h = 31 * (31 * 17L + truths.coins) + mostLies;
        for (int t = 0; t < truths.size; t++) {
            h = 31 * h + (truths.isLeft(t) ? truths.liesOf(t) : STRUCK);
        }
        for (int b = 0; b < came; b++) h = balances[b].digestOnto(h);
        return h;
    }

    public int status() {
        return latestFinding;
    }

    // ---- what the calls above share

    private int found(int first, int finding) {
        latestFinding = finding;
        findings++;
        // A BALANCE that was TAKEN has no COMPLAINT any more.
        if (!balances[first].taken) balances[first].complaint = finding;
        return FOUND - finding;
    }

    private int keep(Balance fresh) {
        balances[came] = fresh;
        came++;
        return came - 1;
    }

    private int balancesThere() {
        int there = 0;
        for (int b = 0; b < came; b++) {
            if (!balances[b].taken) there++;
        }
        return there;
    }

    private boolean isTruth(int t) {
        return t >= 0 && t < truths.size;
    }

    private boolean isCoin(int coin) {
        return coin >= 0 && coin < truths.coins;
    }

    private boolean cameWith(int b) {
        return b >= 0 && b < came;
    }

    private boolean isNode(int i) {
        return quest.hasTree() && i >= 0 && i < quest.nodes.size;
    }

    private boolean isRow(int i) {
        return i >= 0 && i < quest.rowsShown();
    }

    private static boolean isSide(int side) {
        return side == 0 || side == 1;
    }

    private static boolean isKind(int kind) {
        return kind >= 0 && kind <= QUEUE;
    }

    private static boolean isOutcome(int outcome) {
        return outcome >= -MOST_OUTCOME && outcome <= MOST_OUTCOME;
    }

    private static boolean areSteps(int steps) {
        return steps >= 1 && steps <= STEPS_A_CALL;
    }

    private static int withoutPans(Balance asked) {
        if (asked.taken) return NO_BALANCE;
        return asked.kind == QUEUE ? NOT_THAT_ONE : 0;
    }

    private static int withoutPan(Balance asked, int side) {
        int trouble = withoutPans(asked);
        if (trouble != 0) return trouble;
        return asked.panOf(side).isMissing() ? NO_PAN : 0;
    }

    private static int withoutPlace(Balance asked, int side, int place) {
        int trouble = withoutPan(asked, side);
        if (trouble != 0) return trouble;
        return asked.panOf(side).reaches(place, 1) ? 0 : BEYOND;
    }

    private int refusalToWeigh(int b, int outcome) {
        if (!cameWith(b) || !isOutcome(outcome)) return BAD;
        if (truths.coins == 0) return STATE;
        Balance weigher = balances[b].weigherAt(truths.weighings);
        if (balances[b].taken || weigher.taken) return found(b, NO_BALANCE);
        if (weigher.left.isMissing() || weigher.right.isMissing()) return found(b, NO_PAN);
        return weigher.isLoadedFairly() ? 0 : STATE;
    }

    /** Doubles what is too short, so that all rows ever made stay below twice the longest one. */
    private static int[] roomFor(int[] old, int need) {
        return old.length >= need ? old : Arrays.copyOf(old, Math.max(need, 2 * old.length));
    }

    private static long[] roomFor(long[] old, int need) {
        return old.length >= need ? old : Arrays.copyOf(old, Math.max(need, 2 * old.length));
    }

    /** The numbers that BODIES leave while it is open; only wish() opens it. */
    static final class Trace {
        final int[] numbers = new int[6];
        int size;
        boolean open;

        void clear() {
            size = 0;
        }

        void note(int body) {
            if (open && size < numbers.length) {
                numbers[size] = body;
                size++;
            }
        }
    }

    static final class Pan {
        final int[] lying = new int[MOST_PLACES];
        int places = MISSING;

        boolean isMissing() {
            return places < 0;
        }

        void lay(int n) {
            places = n;
            clear();
        }

        void clear() {
            Arrays.fill(lying, NOBODY);
        }

        boolean reaches(int from, int n) {
            return from >= 0 && n >= 0 && from <= places && n <= places - from;
        }

        int load() {
            int load = 0;
            for (int place = 0; place < places; place++) {
                if (lying[place] != NOBODY) load++;
            }
            return load;
        }

        long bits() {
            long bits = 0;
            for (int place = 0; place < places; place++) {
                if (lying[place] != NOBODY) bits |= 1L << lying[place];
            }
            return bits;
        }

        long digestOnto(long h) {
            long on = 31 * h + places;
            for (int place = 0; place < places; place++) on = 31 * on + lying[place];
            return on;
        }
    }

    /** One BALANCE of any KIND; a BODY that asks AS ABOVE calls the one that stands above it. */
    static final class Balance {
        final int kind;
        final Balance[] members;
        final Trace trace;
        final Pan left = new Pan();
        final Pan right = new Pan();
        /** Its MOST, which nothing changes: SEARCHES need it at every STEP. */
        final int reach;
        boolean taken;
        int used;
        int complaint;

        Balance(int kind, Balance[] members, Trace trace) {
            this.kind = kind;
            this.members = members;
            this.trace = trace;
            reach = most();
        }

        Pan panOf(int side) {
            return side == 0 ? left : right;
        }

        void clear() {
            left.clear();
            right.clear();
        }

        boolean belongsTo(int other) {
            int up = kind;
            for (int i = 0; i < ABOVE.length && up >= 0; i++) {
                if (up == other) return true;
                up = ABOVE[up];
            }
            return false;
        }

        Balance weigherAt(int turn) {
            if (members.length == 0) return this;
            return members[Math.floorMod(turn, members.length)];
        }

        /** Whether it is there, and of a QUEUE those whose turns come among the first so many. */
        boolean isWhole(int turns) {
            if (taken) return false;
            for (int i = 0; i < members.length && i < turns; i++) {
                if (members[i].taken) return false;
            }
            return true;
        }

        boolean isLoadedFairly() {
            long lefts = left.bits();
            long rights = right.bits();
            int each = left.load();
            if (each == 0 || each != right.load() || (lefts & rights) != 0) return false;
            return Long.bitCount(lefts) == each && Long.bitCount(rights) == each;
        }

        /** The LIES of a TRUTH behind an OUTCOME, or STRUCK. */
        int liesBehind(int told, int outcome, int had, int mostLies) {
            if (told == outcome) return had;
            boolean byLie = kind == LYING && outcome >= -1 && outcome <= 1 && had < mostLies;
            return byLie ? had + 1 : STRUCK;
        }

        /** NONE if one of a QUEUE's is asked that was TAKEN. */
        int answer(int what, int d) {
            switch (what) {
                case 0: return tells(d);
                case 1: return most();
                case 2: return cost();
                case 3: return sure();
                default: return used;
            }
        }

        int tells(int d) {
            switch (kind) {
                case SCALE: return scaleTells(d);
                case COARSE:
                case WORN: return coarseTells(d);
                case BLUNT: return bluntTells(d);
                default: return plainTells(d);
            }
        }

        private int plainTells(int d) {
            trace.note(10);
            return d > 0 ? 1 : d < 0 ? -1 : 0;
        }

        private int scaleTells(int d) {
            trace.note(11);
            return d;
        }

        private int coarseTells(int d) {
            trace.note(12);
            return scaleTells(d) / 2;
        }

        private int bluntTells(int d) {
            trace.note(14);
            return d >= -1 && d <= 1 ? 0 : plainTells(d);
        }

        private int most() {
            if (kind != QUEUE) return mostAlone();
            trace.note(26);
            int greatest = 0;
            for (Balance member : members) {
                if (member.taken) return NONE;
                greatest = Math.max(greatest, member.mostAlone());
            }
            return greatest;
        }

        private int mostAlone() {
            switch (kind) {
                case SCALE: return scaleMost();
                case COARSE:
                case WORN: return coarseMost();
                default: return plainMost();
            }
        }

        private int plainMost() {
            trace.note(20);
            return 1;
        }

        private int scaleMost() {
            trace.note(21);
            return plainMost() + 2;
        }

        private int coarseMost() {
            trace.note(22);
            return scaleMost() / 2;
        }

        private int cost() {
            if (kind != QUEUE) return costAlone();
            trace.note(36);
            int together = 0;
            for (Balance member : members) {
                if (member.taken) return NONE;
                together += member.costAlone();
            }
            return together;
        }

        private int costAlone() {
            switch (kind) {
                case WORN: return wornCost();
                case LYING: return lyingCost();
                default: return plainCost();
            }
        }

        private int plainCost() {
            trace.note(30);
            return 1 + (left.load() + right.load()) / 2;
        }

        private int wornCost() {
            trace.note(33);
            return 3 * plainCost() + used;
        }

        private int lyingCost() {
            trace.note(35);
            return plainCost() / 2;
        }

        private int sure() {
            trace.note(kind == LYING ? 45 : 40);
            return kind == LYING ? 0 : 1;
        }

        long digestOnto(long h) {
            if (taken) return 31 * h - 1;
            long on = 31 * (31 * h + kind) + used;
            return kind == QUEUE ? on : right.digestOnto(left.digestOnto(on));
        }
    }

    /** All TRUTHS of a CHARGE in their order, and THE CASE. */
    static final class Truths {
        int coins;
        int size = 1;
        int left = 1;
        int weighings;
        private int leastFalse;
        private int kinds = 1;
        private long[] heavier = new long[1];
        private long[] lighter = new long[1];
        /** Bit w: WEIGHING w since coins() FITS by a LIE. So undoing one needs no copy of THE CASE. */
        private int[] lieBits = new int[1];
        /** 0: LEFT; else 1 and the WEIGHING that STRUCK it. */
        private int[] struckBy = new int[1];
        private final int[] picked = new int[MOST_FALSE];

        static int howMany(int n, int least, int most, int kinds) {
            int many = 0;
            for (int f = least; f <= most; f++) many += choices(n, f) * waysToBeFalse(f, kinds);
            return many;
        }

        /** How many sets of f out of n there are; f is 0 to 3, n 0 or more. */
        private static int choices(int n, int f) {
            switch (f) {
                case 0: return 1;
                case 1: return n;
                case 2: return n * (n - 1) / 2;
                default: return n * (n - 1) * (n - 2) / 6;
            }
        }

        private static int waysToBeFalse(int f, int kinds) {
            return kinds == BOTH_KINDS ? 1 << f : 1;
        }

        void charge(int n, int least, int most, int newKinds) {
            coins = n;
            leastFalse = least;
            kinds = newKinds;
            weighings = 0;
            left = howMany(n, least, most, newKinds);
            heavier = roomFor(heavier, left);
            lighter = roomFor(lighter, left);
            lieBits = roomFor(lieBits, left);
            struckBy = roomFor(struckBy, left);
            size = 0;
            for (int f = least; f <= most; f++) addAllWith(f);
        }

        private void addAllWith(int f) {
            for (int i = 0; i < f; i++) picked[i] = i;
            for (int sets = choices(coins, f); sets > 0; sets--) {
                for (int way = 0; way < waysToBeFalse(f, kinds); way++) addPicked(f, way);
                pickNext(f);
            }
        }

        private void addPicked(int f, int way) {
            long heavy = 0;
            long light = 0;
            for (int i = 0; i < f; i++) {
                // The first FALSE COIN has the highest bit, as it counts first in the order.
                boolean isLighter = kinds == LIGHTER_ONLY || (way >> (f - 1 - i) & 1) == 1;
                if (isLighter) light |= 1L << picked[i];
                else heavy |= 1L << picked[i];
            }
            heavier[size] = heavy;
            lighter[size] = light;
            lieBits[size] = 0;
            struckBy[size] = 0;
            size++;
        }

        private void pickNext(int f) {
            int last = f - 1;
            while (last >= 0 && picked[last] >= coins - f + last) last--;
            if (last < 0) return;
            picked[last]++;
            for (int i = last + 1; i < f; i++) picked[i] = picked[i - 1] + 1;
        }

        boolean isLeft(int t) {
            return struckBy[t] == 0;
        }

        int liesOf(int t) {
            return Integer.bitCount(lieBits[t]);
        }

        int falsehood(int t, int coin) {
            return (int) (heavier[t] >> coin & 1) - (int) (lighter[t] >> coin & 1);
        }

        /** No COIN is in lefts and in rights, so that joined bits count as each for itself. */
        int difference(int t, long lefts, long rights) {
            long down = heavier[t] & lefts | lighter[t] & rights;
            long up = heavier[t] & rights | lighter[t] & lefts;
            return Long.bitCount(down) - Long.bitCount(up);
        }

        boolean exchangeable(int a, int b) {
            for (int t = 0; t < size; t++) {
                if (!isLeft(t)) continue;
                int image = exchanged(t, a, b);
                if (!isLeft(image) || liesOf(image) != liesOf(t)) return false;
            }
            return true;
        }

        /** The TRUTH that t is with COINS a and b exchanged. */
        int exchanged(int t, int a, int b) {
            long both = 1L << a | 1L << b;
            long heavy = exchangedBits(heavier[t], both);
            long light = exchangedBits(lighter[t], both);
            return heavy == heavier[t] && light == lighter[t] ? t : numberOf(heavy, light);
        }

        private static long exchangedBits(long bits, long both) {
            long of = bits & both;
            return of == 0 || of == both ? bits : bits ^ both;
        }

        /** A TRUTH's number, by how many stand ahead of it: cheaper than to look for it. */
        private int numberOf(long heavy, long light) {
            long rest = heavy | light;
            int f = Long.bitCount(rest);
            int set = choices(coins, f) - 1;
            int way = 0;
            for (int i = 0; i < f; i++) {
                int coin = Long.numberOfTrailingZeros(rest);
                set -= choices(coins - 1 - coin, f - i);
                way = 2 * way + (int) (light >> coin & 1);
                rest &= rest - 1;
            }
            if (kinds != BOTH_KINDS) way = 0;
            return howMany(coins, leastFalse, f - 1, kinds) + set * waysToBeFalse(f, kinds) + way;
        }

        void judgeBy(Balance weigher, int outcome, int mostLies) {
            long lefts = weigher.left.bits();
            long rights = weigher.right.bits();
            int lieBit = 1 << weighings;
            weighings++;
            for (int t = 0; t < size; t++) {
                if (!isLeft(t)) continue;
                int had = liesOf(t);
                int has = weigher.liesBehind(weigher.tells(difference(t, lefts, rights)), outcome, had, mostLies);
                if (has == STRUCK) {
                    struckBy[t] = weighings;
                    left--;
                } else if (has > had) {
                    lieBits[t] |= lieBit;
                }
            }
        }

        int leftBehind(Balance weigher, int outcome, int mostLies) {
            long lefts = weigher.left.bits();
            long rights = weigher.right.bits();
            int stay = 0;
            for (int t = 0; t < size; t++) {
                if (!isLeft(t)) continue;
                int told = weigher.tells(difference(t, lefts, rights));
                if (weigher.liesBehind(told, outcome, liesOf(t), mostLies) != STRUCK) stay++;
            }
            return stay;
        }

        void goBack() {
            for (int t = 0; t < size; t++) {
                if (struckBy[t] == weighings) {
                    struckBy[t] = 0;
                    left++;
                }
                lieBits[t] &= ~(1 << weighings - 1);
            }
            weighings--;
        }
    }

    /** The TRUTHS that are LEFT as a SEARCH begins; its CASES tell of these alone. */
    static final class Suspects {
        final int[] truth = new int[SEARCH_TRUTHS];
        final int[] lies = new int[SEARCH_TRUTHS];
        int coins;
        int size;
        /** Of each pair of COINS, each suspect's place with these two exchanged (-1: none of them). */
        private int[] image = new int[0];

        void gather(Truths truths) {
            coins = truths.coins;
            size = 0;
            for (int t = 0; t < truths.size && size < SEARCH_TRUTHS; t++) {
                if (!truths.isLeft(t)) continue;
                truth[size] = t;
                lies[size] = truths.liesOf(t);
                size++;
            }
            image = roomFor(image, SEARCH_TRUTHS * SEARCH_COINS * (SEARCH_COINS - 1) / 2);
            for (int b = 1; b < coins; b++) {
                for (int a = 0; a < b; a++) mapPair(truths, a, b);
            }
        }

        private void mapPair(Truths truths, int a, int b) {
            int first = firstOfPair(a, b);
            for (int p = 0; p < size; p++) {
                image[first + p] = placeOf(truths.exchanged(truth[p], a, b));
            }
        }

        private static int firstOfPair(int a, int b) {
            return (b * (b - 1) / 2 + a) * SEARCH_TRUTHS;
        }

        private int placeOf(int t) {
            for (int p = 0; p < size; p++) {
                if (truth[p] == t) return p;
            }
            return -1;
        }

        /** Whether COINS a, b (a below b) are ALIKE in a CASE. */
        boolean exchangeable(int a, int b, int[] inCase) {
            int first = firstOfPair(a, b);
            for (int p = 0; p < size; p++) {
                if (inCase[p] == STRUCK) continue;
                int other = image[first + p];
                if (other < 0 || inCase[other] != inCase[p]) return false;
            }
            return true;
        }
    }

    /** The WEIGHINGS of a CASE in their order, one after the other. */
    static final class Weighings {
        private final int[] groupOf = new int[SEARCH_COINS];
        private final int[] leastOf = new int[SEARCH_COINS];
        private final int[] sizeOf = new int[SEARCH_COINS];
        private final int[] onLeft = new int[SEARCH_COINS];
        private final int[] onRight = new int[SEARCH_COINS];
        private int coins;
        private int groups;
        private int onEach;
        int number;
        int lefts;
        int rights;

        void begin(Suspects suspects, int[] inCase) {
            coins = suspects.coins;
            groups = 0;
            onEach = 0;
            number = -1;
            for (int coin = 0; coin < coins; coin++) {
                int group = 0;
                while (group < groups && !suspects.exchangeable(leastOf[group], coin, inCase)) group++;
                if (group == groups) {
                    leastOf[group] = coin;
                    sizeOf[group] = 0;
                    groups++;
                }
                groupOf[coin] = group;
                sizeOf[group]++;
            }
        }

        /** To the next WEIGHING, if there is one more. */
        boolean advance() {
            if (onEach == 0 || !lessen()) {
                onEach++;
                if (2 * onEach > coins) return false;
                fill(0, onEach, onEach);
            }
            number++;
            layCoins();
            return true;
        }

        /** The next one with as many COINS: the last number that can be one less, then all as great as can be. */
        private boolean lessen() {
            int room = 0;
            int wantLeft = 0;
            int wantRight = 0;
            for (int g = groups - 1; g >= 0; g--) {
                if (onRight[g] > 0 && wantLeft + wantRight < room) {
                    onRight[g]--;
                    fill(g + 1, wantLeft, wantRight + 1);
                    return true;
                }
                wantRight += onRight[g];
                int refill = Math.min(sizeOf[g] - onLeft[g] + 1, wantRight);
                if (onLeft[g] > 0 && wantLeft + 1 + wantRight - refill <= room) {
                    onLeft[g]--;
                    onRight[g] = refill;
                    fill(g + 1, wantLeft + 1, wantRight - refill);
                    return true;
                }
                wantLeft += onLeft[g];
                room += sizeOf[g];
            }
            return false;
        }

        private void fill(int from, int wantLeft, int wantRight) {
            int leftToLay = wantLeft;
            int rightToLay = wantRight;
            for (int g = from; g < groups; g++) {
                onLeft[g] = Math.min(sizeOf[g], leftToLay);
                onRight[g] = Math.min(sizeOf[g] - onLeft[g], rightToLay);
                leftToLay -= onLeft[g];
                rightToLay -= onRight[g];
            }
        }

        private void layCoins() {
            lefts = 0;
            rights = 0;
            for (int g = 0; g < groups; g++) layGroup(g);
        }

        private void layGroup(int g) {
            int laid = 0;
            int toLay = onLeft[g] + onRight[g];
            for (int coin = leastOf[g]; coin < coins && laid < toLay; coin++) {
                if (groupOf[coin] != g) continue;
                if (laid < onLeft[g]) lefts |= 1 << coin;
                else rights |= 1 << coin;
                laid++;
            }
        }
    }

    /** CAN of one CASE, with what has been looked at so far. */
    static final class Question {
        final int[] lies = new int[SEARCH_TRUTHS];
        final int[] told = new int[SEARCH_TRUTHS];
        final Weighings weighings = new Weighings();
        int size;
        int left;
        int most;
        int outcome;
        int node;
        int firstRow;
        int ownRow;

        void takeAll(Suspects suspects) {
            size = suspects.size;
            left = size;
            System.arraycopy(suspects.lies, 0, lies, 0, size);
        }

        void takeOutcome(Question above, Balance weigher, int mostLies) {
            size = above.size;
            left = 0;
            for (int p = 0; p < size; p++) {
                lies[p] = above.lies[p];
                if (lies[p] == STRUCK) continue;
                lies[p] = weigher.liesBehind(above.told[p], above.outcome, lies[p], mostLies);
                if (lies[p] != STRUCK) left++;
            }
        }

        int firstLeft() {
            for (int p = 0; p < size; p++) {
                if (lies[p] != STRUCK) return p;
            }
            return 0;
        }
    }

    /** NODES, each behind the one it follows, so that what a no makes void is always at the end. */
    static final class Tree {
        private static final int LEFTS = 0, RIGHTS = 1, VERDICT = 2, STAY = 3, DEPTH = 4, NEXT = 5;
        private static final int CELLS = NEXT + OUTCOMES;
        private int[] cells = new int[0];
        int size;

        int add(int verdict, int stay, int depth) {
            int first = size * CELLS;
            cells = roomFor(cells, first + CELLS);
            cells[first + VERDICT] = verdict;
            cells[first + STAY] = stay;
            cells[first + DEPTH] = depth;
            size++;
            layOn(size - 1, 0, 0);
            return size - 1;
        }

        /** Another WEIGHING for a NODE: what followed the one before is gone. */
        void layOn(int i, int lefts, int rights) {
            int first = i * CELLS;
            cells[first + LEFTS] = lefts;
            cells[first + RIGHTS] = rights;
            for (int cell = first + NEXT; cell < first + CELLS; cell++) cells[cell] = NONE;
            size = i + 1;
        }

        void link(int i, int outcome, int next) {
            cells[i * CELLS + NEXT + MOST_OUTCOME + outcome] = next;
        }

        int follow(int i, int outcome) {
            return cells[i * CELLS + NEXT + MOST_OUTCOME + outcome];
        }

        int coinsOnEach(int i) {
            return Integer.bitCount(cells[i * CELLS + LEFTS]);
        }

        int coinsOn(int i, int side) {
            return cells[i * CELLS + (side == 0 ? LEFTS : RIGHTS)];
        }

        int coinOf(int i, int side, int k) {
            int rest = coinsOn(i, side);
            for (int skipped = 0; skipped < k; skipped++) rest &= rest - 1;
            return Integer.numberOfTrailingZeros(rest);
        }

        int tell(int i, int what) {
            int first = i * CELLS;
            switch (what) {
                case 0: return coinsOnEach(i);
                case 1: return cells[first + VERDICT];
                case 2: return cells[first + STAY];
                case 3: return cells[first + DEPTH];
                default: return follow(i, what - 4 - MOST_OUTCOME);
            }
        }
    }

    /** ROWS; those beyond 600 are counted alone, as a yes may still cut them off. */
    static final class Rows {
        int[] number = new int[0];
        int[] told = new int[0];
        int size;

        void add(int newNumber, int newTold) {
            if (size < MOST_ROWS) {
                number = roomFor(number, size + 1);
                told = roomFor(told, size + 1);
                number[size] = newNumber;
                told[size] = newTold;
            }
            size++;
        }

        void setTold(int i, int newTold) {
            if (i < MOST_ROWS) told[i] = newTold;
        }
    }

    /**
     * A SEARCH as a stack of questions, so that it can stop ahead of any STEP. As it goes it makes
     * THE TREE out of what answers yes, and ROWS out of what answers no.
     */
    static final class Search {
        private final Truths truths;
        private final Suspects suspects = new Suspects();
        private Question[] questions = new Question[0];
        final Tree nodes = new Tree();
        private Rows growing = new Rows();
        /** ROWS of the greatest number of WEIGHINGS that was found not to do. */
        Rows whole = new Rows();
        /** null: there is no SEARCH. */
        private Balance on;
        private int firstTurn;
        private int mostLies;
        private int outcomesOfOne;
        private int goal;
        private int level;
        private boolean asking;
        private boolean over;
        private int rowsChecked;
        int steps;
        int leastFound;
        boolean rowsAsked;

        Search(Truths truths) {
            this.truths = truths;
        }

        void end() {
            on = null;
            over = false;
        }

        boolean isThere() {
            return on != null;
        }

        boolean isOver() {
            return over;
        }

        boolean hasTree() {
            return on != null && over && leastFound != NONE;
        }

        /** 0: there are none. */
        int rowsShown() {
            return hasTree() && rowsAsked && whole.size <= MOST_ROWS ? whole.size : 0;
        }

        void begin(Balance balance, int lies) {
            makeQuestions();
            suspects.gather(truths);
            on = balance;
            firstTurn = truths.weighings;
            mostLies = lies;
            outcomesOfOne = 2 * balance.reach + 1;
            over = false;
            rowsAsked = false;
            leastFound = NONE;
            steps = 0;
            whole.size = 0;
            askFor(0);
        }

        private void makeQuestions() {
            if (questions.length > 0) return;
            questions = new Question[DEEPEST + 1];
            for (int i = 0; i < questions.length; i++) questions[i] = new Question();
        }

        private void askFor(int n) {
            goal = n;
            level = 0;
            asking = true;
            nodes.size = 0;
            growing.size = 0;
            questions[0].takeAll(suspects);
        }

        void runOn(int told) {
            for (int i = 0; i < told && on != null && !over; i++) {
                steps++;
                if (asking) ask(questions[level]);
                else look(questions[level]);
            }
        }

        private Balance weigherAt(int depth) {
            return on.weigherAt(firstTurn + depth);
        }

        private boolean isHopeless(int left, int n) {
            int apart = 1;
            for (int i = 0; i < n; i++) apart *= outcomesOfOne;
            return n <= 0 || left > apart;
        }

        private void ask(Question question) {
            question.firstRow = growing.size;
            if (question.left > 0) addNode(question);
            if (question.left <= 1) {
                answer(true);
            } else if (isHopeless(question.left, goal - level)) {
                growing.add(-1, question.left);
                answer(false);
            } else {
                question.most = weigherAt(level).reach;
                question.weighings.begin(suspects, question.lies);
                if (question.weighings.advance()) asking = false;
                else answer(false);
            }
        }

        private void addNode(Question question) {
            int verdict = question.left == 1 ? suspects.truth[question.firstLeft()] : NONE;
            question.node = nodes.add(verdict, question.left, level);
            if (level == 0) return;
            Question above = questions[level - 1];
            nodes.link(above.node, above.outcome, question.node);
        }

        private void look(Question question) {
            nodes.layOn(question.node, question.weighings.lefts, question.weighings.rights);
            question.ownRow = growing.size;
            growing.add(question.weighings.number, 0);
            hearAll(question, level);
            question.outcome = -question.most;
            askBehind(question);
        }

        private void hearAll(Question question, int depth) {
            Balance weigher = weigherAt(depth);
            long lefts = question.weighings.lefts;
            long rights = question.weighings.rights;
            for (int p = 0; p < question.size; p++) {
                if (question.lies[p] == STRUCK) continue;
                question.told[p] = weigher.tells(truths.difference(suspects.truth[p], lefts, rights));
            }
        }

        private void askBehind(Question question) {
            questions[level + 1].takeOutcome(question, weigherAt(level), mostLies);
            level++;
            asking = true;
        }

        /** Hands an answer up until another STEP is due, or the SEARCH is over. */
        private void answer(boolean yes) {
            for (int below = level; below > 0; below--) {
                Question question = questions[below - 1];
                level = below - 1;
                if (yes) {
                    growing.size = questions[below].firstRow;
                    if (question.outcome < question.most) {
                        question.outcome++;
                        askBehind(question);
                        return;
                    }
                } else {
                    growing.setTold(question.ownRow, question.outcome);
                    if (question.weighings.advance()) {
                        asking = false;
                        return;
                    }
                }
            }
            if (yes) endWith(goal);
            else askForMore();
        }

        private void endWith(int n) {
            leastFound = n;
            over = true;
        }

        private void askForMore() {
            Rows grown = growing;
            growing = whole;
            whole = grown;
            if (goal >= DEEPEST) endWith(NONE);
            else askFor(goal + 1);
        }

        /** Where a TRUTH that is LEFT comes to in THE TREE. */
        int endOf(int t) {
            int i = 0;
            for (int depth = 0; depth < DEEPEST && nodes.coinsOnEach(i) > 0; depth++) {
                int d = truths.difference(t, nodes.coinsOn(i, 0), nodes.coinsOn(i, 1));
                int next = nodes.follow(i, weigherAt(depth).tells(d));
                if (next == NONE) return i;
                i = next;
            }
            return i;
        }

        /** The questions are free for this, as the SEARCH is over. */
        boolean rowsHold() {
            rowsChecked = 0;
            questions[0].takeAll(suspects);
            return caseHolds(0, leastFound - 1) && rowsChecked == whole.size;
        }

        private boolean caseHolds(int depth, int n) {
            Question question = questions[depth];
            if (question.left < 2) return false;
            if (depth >= DEEPEST || isHopeless(question.left, n)) return nextRowTells(question.left);
            question.most = weigherAt(depth).reach;
            question.weighings.begin(suspects, question.lies);
            for (int i = 0; i <= whole.size && question.weighings.advance(); i++) {
                if (!nextRowFits(question)) return false;
                hearAll(question, depth);
                questions[depth + 1].takeOutcome(question, weigherAt(depth), mostLies);
                if (!caseHolds(depth + 1, n - 1)) return false;
            }
            return true;
        }

        private boolean nextRowTells(int left) {
            if (rowsChecked >= whole.size) return false;
            int i = rowsChecked;
            rowsChecked++;
            return whole.number[i] == -1 && whole.told[i] == left;
        }

        private boolean nextRowFits(Question question) {
            if (rowsChecked >= whole.size) return false;
            question.outcome = whole.told[rowsChecked];
            int number = whole.number[rowsChecked];
            rowsChecked++;
            return number == question.weighings.number && Math.abs(question.outcome) <= question.most;
        }
    }

    /** FIXED WEIGHINGS and what the latest judge() told of them. */
    static final class Jury {
        final long[] left = new long[FIXED];
        final long[] right = new long[FIXED];
        boolean sentenced;
        int leastShared;
        int unlikeRows;
        int crowd;
        private int[] rowOf = new int[0];
        /** How many TRUTHS have a row; all 0 between two calls. */
        private int[] having = new int[0];

        void forget() {
            sentenced = false;
            Arrays.fill(left, 0);
            Arrays.fill(right, 0);
        }

        boolean hasAll(int n) {
            for (int k = 0; k < n; k++) {
                if (left[k] == 0) return false;
            }
            return true;
        }

        int sentence(Truths truths, Balance balance, int n) {
            tellRows(truths, balance, n);
            countRows(truths);
            int alone = 0;
            leastShared = NONE;
            for (int t = truths.size - 1; t >= 0; t--) {
                if (!truths.isLeft(t)) continue;
                if (having[rowOf[t]] == 1) alone++;
                else leastShared = t;
            }
            for (int t = 0; t < truths.size; t++) {
                if (truths.isLeft(t)) having[rowOf[t]] = 0;
            }
            sentenced = true;
            return alone;
        }

        /** Each row as one number, with a digit for each WEIGHING. */
        private void tellRows(Truths truths, Balance balance, int n) {
            rowOf = roomFor(rowOf, truths.size);
            Arrays.fill(rowOf, 0);
            int rowsThatMayBe = 1;
            for (int k = 0; k < n; k++) {
                Balance weigher = balance.weigherAt(k);
                int digits = 2 * weigher.reach + 1;
                rowsThatMayBe *= digits;
                for (int t = 0; t < truths.size; t++) {
                    if (!truths.isLeft(t)) continue;
                    int told = weigher.tells(truths.difference(t, left[k], right[k]));
                    rowOf[t] = digits * rowOf[t] + weigher.reach + told;
                }
            }
            having = roomFor(having, rowsThatMayBe);
        }

        private void countRows(Truths truths) {
            unlikeRows = 0;
            crowd = 0;
            for (int t = 0; t < truths.size; t++) {
                if (!truths.isLeft(t)) continue;
                int row = rowOf[t];
                if (having[row] == 0) unlikeRows++;
                having[row]++;
                crowd = Math.max(crowd, having[row]);
            }
        }
    }
}
